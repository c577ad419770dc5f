/-! the model takes the best as THE PLAN -/
def TKx (h : Hp) (n : Nat) (x : Hp) : Prop := (∀ a j, ¬ (a = 50 ∧ j < n) → x a j = h a j) ∧ ∀ j, j < n → x 50 j = h 61 j
set_option maxHeartbeats 2000000 in
set_option maxRecDepth 20000 in
theorem c_X8_takes {d : Nat} {h : Hp} (hn : 0 ≤ h 44 1 ∧ h 44 1 ≤ 8) : Fr d MX8_takes [mA 44] h (fun r x => r = none ∧ TKx h (h 44 1).toNat x) := by
  intro Q hq X hX hR
  have loop : ∀ i : Nat, i ≤ (h 44 1).toNat → ∀ x, TKx h i x → VW X 2 [some (mA 44), some (mI i)] [] x := by
    refine loop_up _ ?_ ?_
    · intro x w
      have x1 : x 44 1 = h 44 1 := w.1 44 1 (by omega)
      refine v_iload_n hX eX8_takes_2 rfl ?_
      refine v_aload_n hX eX8_takes_3 rfl ?_
      refine v_getI hX eX8_takes_4 fi_X8_84 ⟨by decide, rfl⟩ ?_
      rw [x1]
      refine v_icmp_ge hX eX8_takes_7 (tgt := 28) rfl ⟨by omega, by omega⟩ ⟨by omega, by omega⟩ (fun c7 => ?_) (fun c7 => False.elim ((by omega)))
      exact v_return hX hR eX8_takes_28 rfl (hq _ _ ⟨rfl, w⟩)
    · intro i hi ih x w
      have x1 : x 44 1 = h 44 1 := w.1 44 1 (by omega)
      have x61 : x 61 i = h 61 i := w.1 61 i (by omega)
      have nx := ih (up x 50 i (x 61 i)) ⟨fun a j hj => by rw [up_ne (by omega)]; exact w.1 a j (by omega), fun j hj => by
        by_cases e : j = i
        · subst e; rw [up_same, x61]
        · rw [up_ne (by omega)]; exact w.2 j (by omega)⟩
      refine v_iload_n hX eX8_takes_2 rfl ?_
      refine v_aload_n hX eX8_takes_3 rfl ?_
      refine v_getI hX eX8_takes_4 fi_X8_84 ⟨by decide, rfl⟩ ?_
      rw [x1]
      refine v_icmp_ge hX eX8_takes_7 (tgt := 28) rfl ⟨by omega, by omega⟩ ⟨by omega, by omega⟩ (fun c7 => False.elim ((by omega))) (fun c7 => ?_)
      refine v_aload_n hX eX8_takes_10 rfl ?_
      refine v_getA hX eX8_takes_11 fi_X8_26 ⟨by decide, rfl⟩ rfl ?_
      refine v_iload_n hX eX8_takes_14 rfl ?_
      refine v_aload_n hX eX8_takes_15 rfl ?_
      refine v_getA hX eX8_takes_16 fi_X8_59 ⟨by decide, rfl⟩ rfl ?_
      refine v_iload_n hX eX8_takes_19 rfl ?_
      refine v_iald hX eX8_takes_20 (by first | exact ⟨by decide, rfl⟩ | exact hk | exact hk2 | exact AR_rk (by omega)) ⟨by omega, by omega⟩ ?_
      try simp only [Int.toNat_natCast, Int.toNat_zero, Int.reduceToNat]
      refine v_iast hX eX8_takes_21 (by first | exact ⟨by decide, rfl⟩ | exact hk | exact hk2 | exact AR_rk (by omega)) ⟨by omega, by omega⟩ ?_
      try simp only [Int.toNat_natCast, Int.toNat_zero, Int.reduceToNat]
      refine v_iinc hX eX8_takes_22 rfl rfl rfl ?_
      refine v_goto hX eX8_takes_25 (tgt := 2) rfl ?_
      exact nx
  show VW X 0 [some (mA 44), none] [] h
  refine v_iconst hX eX8_takes_0 ?_
  refine v_istore_n hX eX8_takes_1 rfl rfl ?_
  exact loop 0 (by omega) h ⟨fun _ _ _ => rfl, fun j hj => absurd hj (Nat.not_lt_zero _)⟩
