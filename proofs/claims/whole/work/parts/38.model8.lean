/-! the next row of all PROJECTS in the model -/
theorem tnF_up {f : Nat → Int} : ∀ m : Nat, ¬ tnF f m < 0 → ¬ f ((tnF f m).toNat + 1) < f (tnF f m).toNat
  | 0, h => by simp [tnF] at h
  | m + 1, h => by
    rw [tnF] at h ⊢
    split
    · rename_i z
      rw [if_pos z] at h
      exact tnF_up m h
    · rename_i z
      rw [Int.toNat_natCast]
      exact z
set_option maxHeartbeats 2000000 in
set_option maxRecDepth 20000 in
theorem c_X8_exchange {d : Nat} {h : Hp} {i j : Int} (hi : 0 ≤ i ∧ i < 5) (hj : 0 ≤ j ∧ j < 5) : Fn d MX8_exchange [mA 44, mI i, mI j] h none (swp h 62 i.toNat j.toNat) := by
  intro Q hq X hX hR
  show VW X 0 [some (mA 44), some (mI i), some (mI j), none] [] h
  refine v_aload_n hX eX8_exchange_0 rfl ?_
  refine v_getA hX eX8_exchange_1 fi_X8_62 ⟨by decide, rfl⟩ rfl ?_
  refine v_iload_n hX eX8_exchange_4 rfl ?_
  refine v_iald hX eX8_exchange_5 (by first | exact ⟨by decide, rfl⟩ | exact AR_rk (by omega)) ⟨by omega, by omega⟩ ?_
  try simp only [Int.toNat_natCast, Int.toNat_zero, Int.reduceToNat]
  refine v_istore_n hX eX8_exchange_6 rfl rfl ?_
  refine v_aload_n hX eX8_exchange_7 rfl ?_
  refine v_getA hX eX8_exchange_8 fi_X8_62 ⟨by decide, rfl⟩ rfl ?_
  refine v_iload_n hX eX8_exchange_11 rfl ?_
  refine v_aload_n hX eX8_exchange_12 rfl ?_
  refine v_getA hX eX8_exchange_13 fi_X8_62 ⟨by decide, rfl⟩ rfl ?_
  refine v_iload_n hX eX8_exchange_16 rfl ?_
  refine v_iald hX eX8_exchange_17 (by first | exact ⟨by decide, rfl⟩ | exact AR_rk (by omega)) ⟨by omega, by omega⟩ ?_
  try simp only [Int.toNat_natCast, Int.toNat_zero, Int.reduceToNat]
  refine v_iast hX eX8_exchange_18 (by first | exact ⟨by decide, rfl⟩ | exact AR_rk (by omega)) ⟨by omega, by omega⟩ ?_
  try simp only [Int.toNat_natCast, Int.toNat_zero, Int.reduceToNat]
  refine v_aload_n hX eX8_exchange_19 rfl ?_
  refine v_getA hX eX8_exchange_20 fi_X8_62 ⟨by decide, rfl⟩ rfl ?_
  refine v_iload_n hX eX8_exchange_23 rfl ?_
  refine v_iload_n hX eX8_exchange_24 rfl ?_
  refine v_iast hX eX8_exchange_25 (by first | exact ⟨by decide, rfl⟩ | exact AR_rk (by omega)) ⟨by omega, by omega⟩ ?_
  try simp only [Int.toNat_natCast, Int.toNat_zero, Int.reduceToNat]
  exact v_return hX hR eX8_exchange_26 rfl (hq)
set_option maxHeartbeats 2000000 in
set_option maxRecDepth 20000 in
theorem c_X8_nextOrder {d : Nat} {h : Hp} {L : Nat} {f : Nat → Int} (hL : 0 < L ∧ L ≤ 5) (hf : PF f L) (h11 : h 44 11 = L) : Fn (d + 1) MX8_nextOrder [mA 44] (setR h 62 f) (some (mI (b01 (¬ tnF f (L - 1) < 0)))) (setR h 62 (if tnF f (L - 1) < 0 then f else nxA L f)) := by
  intro Q hq X hX hR
  have t := tnF_rng f (L - 1)
  have rd : ∀ (g : Nat → Int) (b : Nat), setR h 62 g 62 b = g b := fun g b => by rw [setR_same]
  have r11 : ∀ (g : Nat → Int), setR h 62 g 44 11 = L := fun g => by rw [setR_ne (by decide)]; exact h11
  have rvl : ∀ (k : Nat) (g : Nat → Int) (a b t j : Int), PF g L → 0 ≤ a ∧ a ≤ L → -1 ≤ b → b < L → b - a < k → Q (some (mI 1)) (setR h 62 (rvF g k a.toNat b.toNat)) → VW X 86 [some (mA 44), some (mI t), some (mI j), some (mI a), some (mI b)] [] (setR h 62 g) := by
    intro k
    induction k with
    | zero =>
      intro g a b t j hg ha hb hb2 hk hq
      refine v_iload_n hX eX8_nextOrder_86 rfl ?_
      refine v_iload hX eX8_nextOrder_87 rfl ?_
      refine v_icmp_ge hX eX8_nextOrder_89 (tgt := 108) rfl ⟨by omega, by omega⟩ ⟨by omega, by omega⟩ (fun c89 => ?_) (fun c89 => False.elim ((by omega)))
      refine v_iconst hX eX8_nextOrder_108 ?_
      exact v_zreturn hX hR eX8_nextOrder_109 rfl (by omega) (hq)
    | succ k ih =>
      intro g a b t j hg ha hb hb2 hk hq
      by_cases hab : a < b
      · rw [rvF, if_pos (by omega)] at hq
        refine v_iload_n hX eX8_nextOrder_86 rfl ?_
        refine v_iload hX eX8_nextOrder_87 rfl ?_
        refine v_icmp_ge hX eX8_nextOrder_89 (tgt := 108) rfl ⟨by omega, by omega⟩ ⟨by omega, by omega⟩ (fun c89 => False.elim ((by omega))) (fun c89 => ?_)
        refine v_aload_n hX eX8_nextOrder_92 rfl ?_
        refine v_iload_n hX eX8_nextOrder_93 rfl ?_
        refine v_iload hX eX8_nextOrder_94 rfl ?_
        refine v_fnV0 hX eX8_nextOrder_96 lV_X8_240 ok_MX8_exchange ⟨by decide, rfl⟩ rfl ⟨rfl, Nat.le_of_ble_eq_true rfl⟩ (Nat.le_of_ble_eq_true rfl) (c_X8_exchange ⟨by omega, by omega⟩ ⟨by omega, by omega⟩) rfl ?_
        try simp only [Int.toNat_natCast, Int.toNat_zero, Int.reduceToNat]
        rw [swp_setR]
        refine v_iinc hX eX8_nextOrder_99 rfl rfl rfl ?_
        refine v_iinc hX eX8_nextOrder_102 rfl rfl rfl ?_
        refine v_goto hX eX8_nextOrder_105 (tgt := 86) rfl ?_
        exact ih _ (a + 1) (b + -1) t j (PF_sw hg (by omega) (by omega)) ⟨by omega, by omega⟩ (by omega) (by omega) (by omega) (by rw [show (a + 1).toNat = a.toNat + 1 by omega, show (b + -1).toNat = b.toNat - 1 by omega]; exact hq)
      · rw [rvF, if_neg (by omega)] at hq
        refine v_iload_n hX eX8_nextOrder_86 rfl ?_
        refine v_iload hX eX8_nextOrder_87 rfl ?_
        refine v_icmp_ge hX eX8_nextOrder_89 (tgt := 108) rfl ⟨by omega, by omega⟩ ⟨by omega, by omega⟩ (fun c89 => ?_) (fun c89 => False.elim ((by omega)))
        refine v_iconst hX eX8_nextOrder_108 ?_
        exact v_zreturn hX hR eX8_nextOrder_109 rfl (by omega) (hq)
  have rest : ¬ tnF f (L - 1) < 0 → ∀ (j : Nat), j < L → (tnF f (L - 1)).toNat + 1 ≤ j → otF f (tnF f (L - 1)).toNat j = otF f (tnF f (L - 1)).toNat (L - 1) → VW X 47 [some (mA 44), some (mI (tnF f (L - 1))), some (mI j), none, none] [] (setR h 62 f) := by
    intro ht j
    have tu := tnF_up (L - 1) ht
    rw [b01_t ht, if_neg ht] at hq
    have fin : ∀ (j : Nat), j < L → j = otF f (tnF f (L - 1)).toNat (L - 1) → VW X 68 [some (mA 44), some (mI (tnF f (L - 1))), some (mI j), none, none] [] (setR h 62 f) := by
      intro j hj e
      refine v_aload_n hX eX8_nextOrder_68 rfl ?_
      refine v_iload_n hX eX8_nextOrder_69 rfl ?_
      refine v_iload_n hX eX8_nextOrder_70 rfl ?_
      refine v_fnV0 hX eX8_nextOrder_71 lV_X8_240 ok_MX8_exchange ⟨by decide, rfl⟩ rfl ⟨rfl, Nat.le_of_ble_eq_true rfl⟩ (Nat.le_of_ble_eq_true rfl) (c_X8_exchange ⟨by omega, by omega⟩ ⟨by omega, by omega⟩) rfl ?_
      try simp only [Int.toNat_natCast, Int.toNat_zero, Int.reduceToNat]
      rw [swp_setR]
      refine v_iload_n hX eX8_nextOrder_74 rfl ?_
      refine v_iconst hX eX8_nextOrder_75 ?_
      refine v_iadd hX eX8_nextOrder_76 ?_
      refine v_istore_n hX eX8_nextOrder_77 rfl rfl ?_
      refine v_aload_n hX eX8_nextOrder_78 rfl ?_
      refine v_getI hX eX8_nextOrder_79 fi_X8_91 ⟨by decide, rfl⟩ ?_
      rw [r11]
      refine v_iconst hX eX8_nextOrder_82 ?_
      refine v_isub hX eX8_nextOrder_83 ?_
      refine v_istore hX eX8_nextOrder_84 rfl rfl ?_
      exact rvl L _ _ _ _ _ (PF_sw hf (by omega) (by omega)) ⟨by omega, by omega⟩ (by omega) (by omega) (by omega) (by rw [show (tnF f (L - 1) + 1).toNat = (tnF f (L - 1)).toNat + 1 by omega, show ((L : Int) - 1).toNat = L - 1 by omega, e]; exact hq)
    induction j with
    | zero => intro _ h0; omega
    | succ j ih =>
      intro hj htj e
      have hv := hf.1 (j + 1) hj
      have hv2 := hf.1 (tnF f (L - 1)).toNat (by omega)
      rw [otF] at e
      by_cases c1 : f (j + 1) < f (tnF f (L - 1)).toNat
      · have c2 : (tnF f (L - 1)).toNat + 1 < j + 1 := by
          by_cases z : (tnF f (L - 1)).toNat = j
          · rw [← z] at c1; exact absurd c1 tu
          · omega
        rw [if_pos ⟨c2, c1⟩] at e
        refine v_aload_n hX eX8_nextOrder_47 rfl ?_
        refine v_getA hX eX8_nextOrder_48 fi_X8_62 ⟨by decide, rfl⟩ rfl ?_
        refine v_iload_n hX eX8_nextOrder_51 rfl ?_
        refine v_iald hX eX8_nextOrder_52 (by first | exact ⟨by decide, rfl⟩ | exact AR_rk (by omega)) ⟨by omega, by omega⟩ ?_
        try simp only [Int.toNat_natCast, Int.toNat_zero, Int.reduceToNat]
        rw [rd]
        refine v_aload_n hX eX8_nextOrder_53 rfl ?_
        refine v_getA hX eX8_nextOrder_54 fi_X8_62 ⟨by decide, rfl⟩ rfl ?_
        refine v_iload_n hX eX8_nextOrder_57 rfl ?_
        refine v_iald hX eX8_nextOrder_58 (by first | exact ⟨by decide, rfl⟩ | exact AR_rk (by omega)) ⟨by omega, by omega⟩ ?_
        try simp only [Int.toNat_natCast, Int.toNat_zero, Int.reduceToNat]
        rw [rd]
        refine v_icmp_ge hX eX8_nextOrder_59 (tgt := 68) rfl ⟨by omega, by omega⟩ ⟨by omega, by omega⟩ (fun c59 => False.elim ((by omega))) (fun c59 => ?_)
        refine v_iinc hX eX8_nextOrder_62 rfl rfl rfl ?_
        rw [show (((j + 1 : Nat) : Int) + -1) = (j : Int) by omega]
        refine v_goto hX eX8_nextOrder_65 (tgt := 47) rfl ?_
        exact ih (by omega) (by omega) e
      · rw [if_neg (fun z => c1 z.2)] at e
        refine v_aload_n hX eX8_nextOrder_47 rfl ?_
        refine v_getA hX eX8_nextOrder_48 fi_X8_62 ⟨by decide, rfl⟩ rfl ?_
        refine v_iload_n hX eX8_nextOrder_51 rfl ?_
        refine v_iald hX eX8_nextOrder_52 (by first | exact ⟨by decide, rfl⟩ | exact AR_rk (by omega)) ⟨by omega, by omega⟩ ?_
        try simp only [Int.toNat_natCast, Int.toNat_zero, Int.reduceToNat]
        rw [rd]
        refine v_aload_n hX eX8_nextOrder_53 rfl ?_
        refine v_getA hX eX8_nextOrder_54 fi_X8_62 ⟨by decide, rfl⟩ rfl ?_
        refine v_iload_n hX eX8_nextOrder_57 rfl ?_
        refine v_iald hX eX8_nextOrder_58 (by first | exact ⟨by decide, rfl⟩ | exact AR_rk (by omega)) ⟨by omega, by omega⟩ ?_
        try simp only [Int.toNat_natCast, Int.toNat_zero, Int.reduceToNat]
        rw [rd]
        refine v_icmp_ge hX eX8_nextOrder_59 (tgt := 68) rfl ⟨by omega, by omega⟩ ⟨by omega, by omega⟩ (fun c59 => ?_) (fun c59 => False.elim ((by omega)))
        exact fin (j + 1) hj e
  have first : ∀ (m : Nat), m + 1 ≤ L → tnF f m = tnF f (L - 1) → VW X 7 [some (mA 44), some (mI ((m : Int) - 1)), none, none, none] [] (setR h 62 f) := by
    intro m
    induction m with
    | zero =>
      intro hm e
      rw [tnF] at e
      have hneg : tnF f (L - 1) < 0 := by omega
      rw [b01_f (fun z => z hneg), if_pos hneg] at hq
      refine v_iload_n hX eX8_nextOrder_7 rfl ?_
      refine v_if_lt hX eX8_nextOrder_8 (tgt := 34) rfl ⟨by omega, by omega⟩ (fun c8 => ?_) (fun c8 => False.elim ((by omega)))
      refine v_iload_n hX eX8_nextOrder_34 rfl ?_
      refine v_if_ge hX eX8_nextOrder_35 (tgt := 40) rfl ⟨by omega, by omega⟩ (fun c35 => False.elim ((by omega))) (fun c35 => ?_)
      refine v_iconst hX eX8_nextOrder_38 ?_
      exact v_zreturn hX hR eX8_nextOrder_39 rfl (by omega) (hq)
    | succ m ih =>
      intro hm e
      have hv := hf.1 (m + 1) (by omega)
      have hv2 := hf.1 m (by omega)
      rw [tnF] at e
      rw [show (((m + 1 : Nat) : Int) - 1) = (m : Int) by omega]
      by_cases c1 : f (m + 1) < f m
      · rw [if_pos c1] at e
        refine v_iload_n hX eX8_nextOrder_7 rfl ?_
        refine v_if_lt hX eX8_nextOrder_8 (tgt := 34) rfl ⟨by omega, by omega⟩ (fun c8 => False.elim ((by omega))) (fun c8 => ?_)
        refine v_aload_n hX eX8_nextOrder_11 rfl ?_
        refine v_getA hX eX8_nextOrder_12 fi_X8_62 ⟨by decide, rfl⟩ rfl ?_
        refine v_iload_n hX eX8_nextOrder_15 rfl ?_
        refine v_iald hX eX8_nextOrder_16 (by first | exact ⟨by decide, rfl⟩ | exact AR_rk (by omega)) ⟨by omega, by omega⟩ ?_
        try simp only [Int.toNat_natCast, Int.toNat_zero, Int.reduceToNat]
        rw [rd]
        refine v_aload_n hX eX8_nextOrder_17 rfl ?_
        refine v_getA hX eX8_nextOrder_18 fi_X8_62 ⟨by decide, rfl⟩ rfl ?_
        refine v_iload_n hX eX8_nextOrder_21 rfl ?_
        refine v_iconst hX eX8_nextOrder_22 ?_
        refine v_iadd hX eX8_nextOrder_23 ?_
        refine v_iald hX eX8_nextOrder_24 (by first | exact ⟨by decide, rfl⟩ | exact AR_rk (by omega)) ⟨by omega, by omega⟩ ?_
        try simp only [Int.toNat_natCast, Int.toNat_zero, Int.reduceToNat]
        rw [rd, show ((m : Int) + 1).toNat = m + 1 by omega]
        refine v_icmp_le hX eX8_nextOrder_25 (tgt := 34) rfl ⟨by omega, by omega⟩ ⟨by omega, by omega⟩ (fun c25 => False.elim ((by omega))) (fun c25 => ?_)
        refine v_iinc hX eX8_nextOrder_28 rfl rfl rfl ?_
        rw [show ((m : Int) + -1) = (m : Int) - 1 by omega]
        refine v_goto hX eX8_nextOrder_31 (tgt := 7) rfl ?_
        exact ih (by omega) e
      · rw [if_neg c1] at e
        have r0 := rest (by omega) (L - 1) (by omega) (by omega) rfl
        rw [← e, show ((L - 1 : Nat) : Int) = (L : Int) - 1 by omega] at r0
        refine v_iload_n hX eX8_nextOrder_7 rfl ?_
        refine v_if_lt hX eX8_nextOrder_8 (tgt := 34) rfl ⟨by omega, by omega⟩ (fun c8 => False.elim ((by omega))) (fun c8 => ?_)
        refine v_aload_n hX eX8_nextOrder_11 rfl ?_
        refine v_getA hX eX8_nextOrder_12 fi_X8_62 ⟨by decide, rfl⟩ rfl ?_
        refine v_iload_n hX eX8_nextOrder_15 rfl ?_
        refine v_iald hX eX8_nextOrder_16 (by first | exact ⟨by decide, rfl⟩ | exact AR_rk (by omega)) ⟨by omega, by omega⟩ ?_
        try simp only [Int.toNat_natCast, Int.toNat_zero, Int.reduceToNat]
        rw [rd]
        refine v_aload_n hX eX8_nextOrder_17 rfl ?_
        refine v_getA hX eX8_nextOrder_18 fi_X8_62 ⟨by decide, rfl⟩ rfl ?_
        refine v_iload_n hX eX8_nextOrder_21 rfl ?_
        refine v_iconst hX eX8_nextOrder_22 ?_
        refine v_iadd hX eX8_nextOrder_23 ?_
        refine v_iald hX eX8_nextOrder_24 (by first | exact ⟨by decide, rfl⟩ | exact AR_rk (by omega)) ⟨by omega, by omega⟩ ?_
        try simp only [Int.toNat_natCast, Int.toNat_zero, Int.reduceToNat]
        rw [rd, show ((m : Int) + 1).toNat = m + 1 by omega]
        refine v_icmp_le hX eX8_nextOrder_25 (tgt := 34) rfl ⟨by omega, by omega⟩ ⟨by omega, by omega⟩ (fun c25 => ?_) (fun c25 => False.elim ((by omega)))
        refine v_iload_n hX eX8_nextOrder_34 rfl ?_
        refine v_if_ge hX eX8_nextOrder_35 (tgt := 40) rfl ⟨by omega, by omega⟩ (fun c35 => ?_) (fun c35 => False.elim ((by omega)))
        refine v_aload_n hX eX8_nextOrder_40 rfl ?_
        refine v_getI hX eX8_nextOrder_41 fi_X8_91 ⟨by decide, rfl⟩ ?_
        rw [r11]
        refine v_iconst hX eX8_nextOrder_44 ?_
        refine v_isub hX eX8_nextOrder_45 ?_
        refine v_istore_n hX eX8_nextOrder_46 rfl rfl ?_
        exact r0
  have f0 := first (L - 1) (by omega) rfl
  rw [show ((L - 1 : Nat) : Int) - 1 = (L : Int) - 2 by omega] at f0
  show VW X 0 [some (mA 44), none, none, none, none] [] (setR h 62 f)
  refine v_aload_n hX eX8_nextOrder_0 rfl ?_
  refine v_getI hX eX8_nextOrder_1 fi_X8_91 ⟨by decide, rfl⟩ ?_
  rw [r11]
  refine v_iconst hX eX8_nextOrder_4 ?_
  refine v_isub hX eX8_nextOrder_5 ?_
  refine v_istore_n hX eX8_nextOrder_6 rfl rfl ?_
  exact f0
