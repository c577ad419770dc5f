/-! who is ahead: the class's lots are the model's
-/
def dgP (P : SP) (t : Nat → Int) (p : Nat) : Int := if P.pr p = true then P.rk p (t p) * 8 + colI (t p) else 0
theorem dgP_rng {P : SP} (v : ∀ p j, 1 ≤ P.rk p j ∧ P.rk p j ≤ 6) (t : Nat → Int) (p : Nat) : 0 ≤ dgP P t p ∧ dgP P t p ≤ 63 := by
  have a := v p (t p)
  have b := colI_rng (t p)
  unfold dgP
  split <;> omega
theorem ahd_lx {P : SP} {t u : Nat → Int} (v : ∀ p j, 1 ≤ P.rk p j ∧ P.rk p j ≤ 6) (ht : ∀ p, p < P.n → -1 ≤ t p ∧ t p < 5) (hu : ∀ p, p < P.n → -1 ≤ u p ∧ u p < 5) (ho : ∀ i, i < P.n → P.od i < P.n) (hn : P.n ≤ 8) : ∀ (k i : Nat), i + k = P.n → (ahd P t u k i ↔ lxS (fun i => dgP P t (P.od i)) k i < lxS (fun i => dgP P u (P.od i)) k i)
  | 0, _, _ => by simp [ahd, lxS]
  | k + 1, i, h => by
    have ih := ahd_lx v ht hu ho hn k (i + 1) (by omega)
    rw [lxS_lt (fun i => dgP_rng v t _) (fun i => dgP_rng v u _) (by omega), ahd, ← ih]
    have a := ht (P.od i) (ho i (by omega))
    have b := hu (P.od i) (ho i (by omega))
    have r1 := v (P.od i) (t (P.od i))
    have r2 := v (P.od i) (u (P.od i))
    have ct : colI (t (P.od i)) = colM (t (P.od i)) := by unfold colI colM; split <;> split <;> omega
    have cu : colI (u (P.od i)) = colM (u (P.od i)) := by unfold colI colM; split <;> split <;> omega
    have c1 : 0 ≤ colM (t (P.od i)) ∧ colM (t (P.od i)) ≤ 5 := by unfold colM; split <;> omega
    have c2 : 0 ≤ colM (u (P.od i)) ∧ colM (u (P.od i)) ≤ 5 := by unfold colM; split <;> omega
    have inj : colM (t (P.od i)) = colM (u (P.od i)) → t (P.od i) = u (P.od i) := by unfold colM; split <;> split <;> omega
    show _ ↔ dgP P t (P.od i) < dgP P u (P.od i) ∨ (dgP P t (P.od i) = dgP P u (P.od i) ∧ ahd P t u k (i + 1))
    unfold dgP
    rw [ct, cu]
    by_cases hp : P.pr (P.od i) = true
    · simp only [hp, true_and, if_true]
      by_cases e : t (P.od i) = u (P.od i)
      · rw [if_neg (fun z => z e), e]
        exact ⟨fun z => Or.inr ⟨rfl, z⟩, fun z => z.elim (fun y => absurd y (by omega)) (fun y => y.2)⟩
      · rw [if_pos e]
        have ne : colM (t (P.od i)) ≠ colM (u (P.od i)) := fun z => e (inj z)
        exact ⟨fun z => Or.inl (by omega), fun z => z.elim (fun y => by omega) (fun y => absurd y.1 (by omega))⟩
    · rw [if_neg (fun z => hp z.1), if_neg hp, if_neg hp]
      exact ⟨fun z => Or.inr ⟨rfl, z⟩, fun z => z.elim (fun y => absurd y (by omega)) (fun y => y.2)⟩
