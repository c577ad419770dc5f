/-! rows of all PROJECTS, one after the other -/
/-- the last place below m with less behind it, or -1 -/
def tnF (f : Nat → Int) : Nat → Int
  | 0 => -1
  | m + 1 => if f (m + 1) < f m then tnF f m else m
def otF (f : Nat → Int) (t : Nat) : Nat → Nat
  | 0 => 0
  | j + 1 => if t + 1 < j + 1 ∧ f (j + 1) < f t then otF f t j else j + 1
def rvF (f : Nat → Int) : Nat → Nat → Nat → Nat → Int
  | 0, _, _ => f
  | k + 1, a, b => if a < b then rvF (swF f a b) k (a + 1) (b - 1) else f
def nxA (L : Nat) (f : Nat → Int) : Nat → Int :=
  rvF (swF f (tnF f (L - 1)).toNat (otF f (tnF f (L - 1)).toNat (L - 1))) L ((tnF f (L - 1)).toNat + 1) (L - 1)
def PF (f : Nat → Int) (L : Nat) : Prop := (∀ i, i < L → 0 ≤ f i ∧ f i < L) ∧ ∀ j : Nat, j < L → ∃ i, i < L ∧ f i = j
theorem PF_sw {f : Nat → Int} {L i j : Nat} (h : PF f L) (hi : i < L) (hj : j < L) : PF (swF f i j) L := by
  constructor
  · intro x hx
    unfold swF
    split
    · exact h.1 i hi
    · split
      · exact h.1 j hj
      · exact h.1 x hx
  · intro y hy
    obtain ⟨x, hx, e⟩ := h.2 y hy
    by_cases h1 : x = i
    · refine ⟨j, hj, ?_⟩
      unfold swF
      rw [if_pos rfl, ← h1, e]
    · by_cases h2 : x = j
      · refine ⟨i, hi, ?_⟩
        unfold swF
        by_cases h3 : i = j
        · rw [if_pos h3, h3, ← h2, e]
        · rw [if_neg h3, if_pos rfl, ← h2, e]
      · refine ⟨x, hx, ?_⟩
        unfold swF
        rw [if_neg h2, if_neg h1, e]
theorem tnF_rng (f : Nat → Int) : ∀ m : Nat, -1 ≤ tnF f m ∧ tnF f m < m
  | 0 => by simp [tnF]
  | m + 1 => by
    have := tnF_rng f m
    rw [tnF]
    split <;> omega
theorem otF_rng (f : Nat → Int) (t : Nat) : ∀ j : Nat, t + 1 ≤ j → t + 1 ≤ otF f t j ∧ otF f t j ≤ j
  | 0, h => by omega
  | j + 1, h => by
    rw [otF]
    split
    · rename_i z
      have := otF_rng f t j (by omega)
      omega
    · omega
theorem PF_rv {L : Nat} : ∀ (k : Nat) (f : Nat → Int) (a b : Nat), PF f L → b < L → PF (rvF f k a b) L
  | 0, f, a, b, h, _ => h
  | k + 1, f, a, b, h, hb => by
    rw [rvF]
    split
    · exact PF_rv k _ _ _ (PF_sw h (by omega) hb) (by omega)
    · exact h
theorem PF_nx {L : Nat} {f : Nat → Int} (h : PF f L) (hL : 0 < L) (ht : ¬ tnF f (L - 1) < 0) : PF (nxA L f) L := by
  have t := tnF_rng f (L - 1)
  have o := otF_rng f (tnF f (L - 1)).toNat (L - 1) (by omega)
  unfold nxA
  exact PF_rv _ _ _ _ (PF_sw h (by omega) (by omega)) (by omega)
set_option maxHeartbeats 2000000 in
set_option maxRecDepth 20000 in
theorem c_X7_turnToNext {d : Nat} {h : Hp} {L : Nat} {f : Nat → Int} (hL : 0 < L ∧ L ≤ 5) (hf : PF f L) : Fn (d + 1) MX7_turnToNext [mA 6, mI L] (setR h 6 f) (some (mI (b01 (¬ tnF f (L - 1) < 0)))) (setR h 6 (if tnF f (L - 1) < 0 then f else nxA L f)) := by
  intro Q hq X hX hR
  have t := tnF_rng f (L - 1)
  have rd : ∀ (g : Nat → Int) (b : Nat), setR h 6 g 6 b = g b := fun g b => by rw [setR_same]
  have rvl : ∀ (k : Nat) (g : Nat → Int) (a b t j : Int), PF g L → 0 ≤ a ∧ a ≤ L → -1 ≤ b → b < L → b - a < k → Q (some (mI 1)) (setR h 6 (rvF g k a.toNat b.toNat)) → VW X 73 [some (mA 6), some (mI L), some (mI t), some (mI j), some (mI a), some (mI b)] [] (setR h 6 g) := by
    intro k
    induction k with
    | zero =>
      intro g a b t j hg ha hb hb2 hk hq
      refine v_iload hX eX7_turnToNext_73 rfl ?_
      refine v_iload hX eX7_turnToNext_75 rfl ?_
      refine v_icmp_ge hX eX7_turnToNext_77 (tgt := 97) rfl ⟨by omega, by omega⟩ ⟨by omega, by omega⟩ (fun c77 => ?_) (fun c77 => False.elim ((by omega)))
      refine v_iconst hX eX7_turnToNext_97 ?_
      exact v_zreturn hX hR eX7_turnToNext_98 rfl (Or.inr rfl) (hq)
    | succ k ih =>
      intro g a b t j hg ha hb hb2 hk hq
      by_cases hab : a < b
      · rw [rvF, if_pos (by omega)] at hq
        refine v_iload hX eX7_turnToNext_73 rfl ?_
        refine v_iload hX eX7_turnToNext_75 rfl ?_
        refine v_icmp_ge hX eX7_turnToNext_77 (tgt := 97) rfl ⟨by omega, by omega⟩ ⟨by omega, by omega⟩ (fun c77 => False.elim ((by omega))) (fun c77 => ?_)
        refine v_aload_n hX eX7_turnToNext_80 rfl ?_
        refine v_iload hX eX7_turnToNext_81 rfl ?_
        refine v_iload hX eX7_turnToNext_83 rfl ?_
        refine v_fnS0 hX eX7_turnToNext_85 lS_X7_223 ok_MX7_exchangePlaces ⟨rfl, Nat.le_of_ble_eq_true rfl⟩ (Nat.le_of_ble_eq_true rfl) (c_X7_exch (k := 6) (n := 5) ⟨by decide, rfl⟩ ⟨by omega, by omega⟩ ⟨by omega, by omega⟩) rfl ?_
        try simp only [Int.toNat_natCast, Int.toNat_zero, Int.reduceToNat]
        rw [swp_setR]
        refine v_iinc hX eX7_turnToNext_88 rfl rfl rfl ?_
        refine v_iinc hX eX7_turnToNext_91 rfl rfl rfl ?_
        refine v_goto hX eX7_turnToNext_94 (tgt := 73) rfl ?_
        exact ih _ (a + 1) (b + -1) t j (PF_sw hg (by omega) (by omega)) ⟨by omega, by omega⟩ (by omega) (by omega) (by omega) (by rw [show (a + 1).toNat = a.toNat + 1 by omega, show (b + -1).toNat = b.toNat - 1 by omega]; exact hq)
      · rw [rvF, if_neg (by omega)] at hq
        refine v_iload hX eX7_turnToNext_73 rfl ?_
        refine v_iload hX eX7_turnToNext_75 rfl ?_
        refine v_icmp_ge hX eX7_turnToNext_77 (tgt := 97) rfl ⟨by omega, by omega⟩ ⟨by omega, by omega⟩ (fun c77 => ?_) (fun c77 => False.elim ((by omega)))
        refine v_iconst hX eX7_turnToNext_97 ?_
        exact v_zreturn hX hR eX7_turnToNext_98 rfl (Or.inr rfl) (hq)
  have rest : ¬ tnF f (L - 1) < 0 → ∀ (j : Nat), j < L → (tnF f (L - 1)).toNat + 1 ≤ j → otF f (tnF f (L - 1)).toNat j = otF f (tnF f (L - 1)).toNat (L - 1) → ∀ l4 l5, VW X 35 [some (mA 6), some (mI L), some (mI (tnF f (L - 1))), some (mI j), l4, l5] [] (setR h 6 f) := by
    intro ht j
    rw [b01_t ht, if_neg ht] at hq
    have fin : ∀ (j : Nat), j < L → j = otF f (tnF f (L - 1)).toNat (L - 1) → ∀ l4 l5, VW X 57 [some (mA 6), some (mI L), some (mI (tnF f (L - 1))), some (mI j), l4, l5] [] (setR h 6 f) := by
      intro j hj e l4 l5
      refine v_aload_n hX eX7_turnToNext_57 rfl ?_
      refine v_iload_n hX eX7_turnToNext_58 rfl ?_
      refine v_iload_n hX eX7_turnToNext_59 rfl ?_
      refine v_fnS0 hX eX7_turnToNext_60 lS_X7_223 ok_MX7_exchangePlaces ⟨rfl, Nat.le_of_ble_eq_true rfl⟩ (Nat.le_of_ble_eq_true rfl) (c_X7_exch (k := 6) (n := 5) ⟨by decide, rfl⟩ ⟨by omega, by omega⟩ ⟨by omega, by omega⟩) rfl ?_
      try simp only [Int.toNat_natCast, Int.toNat_zero, Int.reduceToNat]
      rw [swp_setR]
      refine v_iload_n hX eX7_turnToNext_63 rfl ?_
      refine v_iconst hX eX7_turnToNext_64 ?_
      refine v_iadd hX eX7_turnToNext_65 ?_
      refine v_istore hX eX7_turnToNext_66 rfl rfl ?_
      refine v_iload_n hX eX7_turnToNext_68 rfl ?_
      refine v_iconst hX eX7_turnToNext_69 ?_
      refine v_isub hX eX7_turnToNext_70 ?_
      refine v_istore hX eX7_turnToNext_71 rfl rfl ?_
      exact rvl L _ _ _ _ _ (PF_sw hf (by omega) (by omega)) ⟨by omega, by omega⟩ (by omega) (by omega) (by omega) (by rw [show (tnF f (L - 1) + 1).toNat = (tnF f (L - 1)).toNat + 1 by omega, show ((L : Int) - 1).toNat = L - 1 by omega, e]; exact hq)
    induction j with
    | zero => intro _ h0; omega
    | succ j ih =>
      intro hj htj e l4 l5
      have hv := hf.1 (j + 1) hj
      have hv2 := hf.1 (tnF f (L - 1)).toNat (by omega)
      rw [otF] at e
      by_cases c1 : (tnF f (L - 1)).toNat + 1 < j + 1 ∧ f (j + 1) < f (tnF f (L - 1)).toNat
      · rw [if_pos c1] at e
        refine v_iload_n hX eX7_turnToNext_35 rfl ?_
        refine v_iload_n hX eX7_turnToNext_36 rfl ?_
        refine v_iconst hX eX7_turnToNext_37 ?_
        refine v_iadd hX eX7_turnToNext_38 ?_
        refine v_icmp_le hX eX7_turnToNext_39 (tgt := 57) rfl ⟨by omega, by omega⟩ ⟨by omega, by omega⟩ (fun c39 => False.elim ((by omega))) (fun c39 => ?_)
        refine v_aload_n hX eX7_turnToNext_42 rfl ?_
        refine v_iload_n hX eX7_turnToNext_43 rfl ?_
        refine v_iald hX eX7_turnToNext_44 (by first | exact ⟨by decide, rfl⟩ | exact AR_rk (by omega)) ⟨by omega, by omega⟩ ?_
        try simp only [Int.toNat_natCast, Int.toNat_zero, Int.reduceToNat]
        rw [rd]
        refine v_aload_n hX eX7_turnToNext_45 rfl ?_
        refine v_iload_n hX eX7_turnToNext_46 rfl ?_
        refine v_iald hX eX7_turnToNext_47 (by first | exact ⟨by decide, rfl⟩ | exact AR_rk (by omega)) ⟨by omega, by omega⟩ ?_
        try simp only [Int.toNat_natCast, Int.toNat_zero, Int.reduceToNat]
        rw [rd]
        refine v_icmp_ge hX eX7_turnToNext_48 (tgt := 57) rfl ⟨by omega, by omega⟩ ⟨by omega, by omega⟩ (fun c48 => False.elim ((by omega))) (fun c48 => ?_)
        refine v_iinc hX eX7_turnToNext_51 rfl rfl rfl ?_
        rw [show (((j + 1 : Nat) : Int) + -1) = (j : Int) by omega]
        refine v_goto hX eX7_turnToNext_54 (tgt := 35) rfl ?_
        exact ih (by omega) (by omega) e _ _
      · rw [if_neg c1] at e
        by_cases c2 : (tnF f (L - 1)).toNat + 1 < j + 1
        · refine v_iload_n hX eX7_turnToNext_35 rfl ?_
          refine v_iload_n hX eX7_turnToNext_36 rfl ?_
          refine v_iconst hX eX7_turnToNext_37 ?_
          refine v_iadd hX eX7_turnToNext_38 ?_
          refine v_icmp_le hX eX7_turnToNext_39 (tgt := 57) rfl ⟨by omega, by omega⟩ ⟨by omega, by omega⟩ (fun c39 => False.elim ((by omega))) (fun c39 => ?_)
          refine v_aload_n hX eX7_turnToNext_42 rfl ?_
          refine v_iload_n hX eX7_turnToNext_43 rfl ?_
          refine v_iald hX eX7_turnToNext_44 (by first | exact ⟨by decide, rfl⟩ | exact AR_rk (by omega)) ⟨by omega, by omega⟩ ?_
          try simp only [Int.toNat_natCast, Int.toNat_zero, Int.reduceToNat]
          rw [rd]
          refine v_aload_n hX eX7_turnToNext_45 rfl ?_
          refine v_iload_n hX eX7_turnToNext_46 rfl ?_
          refine v_iald hX eX7_turnToNext_47 (by first | exact ⟨by decide, rfl⟩ | exact AR_rk (by omega)) ⟨by omega, by omega⟩ ?_
          try simp only [Int.toNat_natCast, Int.toNat_zero, Int.reduceToNat]
          rw [rd]
          refine v_icmp_ge hX eX7_turnToNext_48 (tgt := 57) rfl ⟨by omega, by omega⟩ ⟨by omega, by omega⟩ (fun c48 => ?_) (fun c48 => False.elim ((c48 (by have : ¬ f (j + 1) < f (tnF f (L - 1)).toNat := fun z => c1 ⟨c2, z⟩; omega))))
          exact fin (j + 1) hj e _ _
        · refine v_iload_n hX eX7_turnToNext_35 rfl ?_
          refine v_iload_n hX eX7_turnToNext_36 rfl ?_
          refine v_iconst hX eX7_turnToNext_37 ?_
          refine v_iadd hX eX7_turnToNext_38 ?_
          refine v_icmp_le hX eX7_turnToNext_39 (tgt := 57) rfl ⟨by omega, by omega⟩ ⟨by omega, by omega⟩ (fun c39 => ?_) (fun c39 => False.elim ((by omega)))
          exact fin (j + 1) hj e _ _
  have first : ∀ (m : Nat), m + 1 ≤ L → tnF f m = tnF f (L - 1) → ∀ l3 l4 l5, VW X 4 [some (mA 6), some (mI L), some (mI ((m : Int) - 1)), l3, l4, l5] [] (setR h 6 f) := by
    intro m
    induction m with
    | zero =>
      intro hm e l3 l4 l5
      rw [tnF] at e
      have hneg : tnF f (L - 1) < 0 := by omega
      rw [b01_f (fun z => z hneg), if_pos hneg] at hq
      refine v_iload_n hX eX7_turnToNext_4 rfl ?_
      refine v_if_lt hX eX7_turnToNext_5 (tgt := 25) rfl ⟨by omega, by omega⟩ (fun c5 => ?_) (fun c5 => False.elim ((by omega)))
      refine v_iload_n hX eX7_turnToNext_25 rfl ?_
      refine v_if_ge hX eX7_turnToNext_26 (tgt := 31) rfl ⟨by omega, by omega⟩ (fun c26 => False.elim ((by omega))) (fun c26 => ?_)
      refine v_iconst hX eX7_turnToNext_29 ?_
      exact v_zreturn hX hR eX7_turnToNext_30 rfl (by omega) (hq)
    | succ m ih =>
      intro hm e l3 l4 l5
      have hv := hf.1 (m + 1) (by omega)
      have hv2 := hf.1 m (by omega)
      rw [tnF] at e
      rw [show (((m + 1 : Nat) : Int) - 1) = (m : Int) by omega]
      by_cases c1 : f (m + 1) < f m
      · rw [if_pos c1] at e
        refine v_iload_n hX eX7_turnToNext_4 rfl ?_
        refine v_if_lt hX eX7_turnToNext_5 (tgt := 25) rfl ⟨by omega, by omega⟩ (fun c5 => False.elim ((by omega))) (fun c5 => ?_)
        refine v_aload_n hX eX7_turnToNext_8 rfl ?_
        refine v_iload_n hX eX7_turnToNext_9 rfl ?_
        refine v_iald hX eX7_turnToNext_10 (by first | exact ⟨by decide, rfl⟩ | exact AR_rk (by omega)) ⟨by omega, by omega⟩ ?_
        try simp only [Int.toNat_natCast, Int.toNat_zero, Int.reduceToNat]
        rw [rd]
        refine v_aload_n hX eX7_turnToNext_11 rfl ?_
        refine v_iload_n hX eX7_turnToNext_12 rfl ?_
        refine v_iconst hX eX7_turnToNext_13 ?_
        refine v_iadd hX eX7_turnToNext_14 ?_
        refine v_iald hX eX7_turnToNext_15 (by first | exact ⟨by decide, rfl⟩ | exact AR_rk (by omega)) ⟨by omega, by omega⟩ ?_
        try simp only [Int.toNat_natCast, Int.toNat_zero, Int.reduceToNat]
        rw [rd, show ((m : Int) + 1).toNat = m + 1 by omega]
        refine v_icmp_le hX eX7_turnToNext_16 (tgt := 25) rfl ⟨by omega, by omega⟩ ⟨by omega, by omega⟩ (fun c16 => False.elim ((by omega))) (fun c16 => ?_)
        refine v_iinc hX eX7_turnToNext_19 rfl rfl rfl ?_
        rw [show ((m : Int) + -1) = (m : Int) - 1 by omega]
        refine v_goto hX eX7_turnToNext_22 (tgt := 4) rfl ?_
        exact ih (by omega) e _ _ _
      · rw [if_neg c1] at e
        have r0 := rest (by omega) (L - 1) (by omega) (by omega) rfl l4 l5
        rw [← e, show ((L - 1 : Nat) : Int) = (L : Int) - 1 by omega] at r0
        refine v_iload_n hX eX7_turnToNext_4 rfl ?_
        refine v_if_lt hX eX7_turnToNext_5 (tgt := 25) rfl ⟨by omega, by omega⟩ (fun c5 => False.elim ((by omega))) (fun c5 => ?_)
        refine v_aload_n hX eX7_turnToNext_8 rfl ?_
        refine v_iload_n hX eX7_turnToNext_9 rfl ?_
        refine v_iald hX eX7_turnToNext_10 (by first | exact ⟨by decide, rfl⟩ | exact AR_rk (by omega)) ⟨by omega, by omega⟩ ?_
        try simp only [Int.toNat_natCast, Int.toNat_zero, Int.reduceToNat]
        rw [rd]
        refine v_aload_n hX eX7_turnToNext_11 rfl ?_
        refine v_iload_n hX eX7_turnToNext_12 rfl ?_
        refine v_iconst hX eX7_turnToNext_13 ?_
        refine v_iadd hX eX7_turnToNext_14 ?_
        refine v_iald hX eX7_turnToNext_15 (by first | exact ⟨by decide, rfl⟩ | exact AR_rk (by omega)) ⟨by omega, by omega⟩ ?_
        try simp only [Int.toNat_natCast, Int.toNat_zero, Int.reduceToNat]
        rw [rd, show ((m : Int) + 1).toNat = m + 1 by omega]
        refine v_icmp_le hX eX7_turnToNext_16 (tgt := 25) rfl ⟨by omega, by omega⟩ ⟨by omega, by omega⟩ (fun c16 => ?_) (fun c16 => False.elim ((by omega)))
        refine v_iload_n hX eX7_turnToNext_25 rfl ?_
        refine v_if_ge hX eX7_turnToNext_26 (tgt := 31) rfl ⟨by omega, by omega⟩ (fun c26 => ?_) (fun c26 => False.elim ((by omega)))
        refine v_iload_n hX eX7_turnToNext_31 rfl ?_
        refine v_iconst hX eX7_turnToNext_32 ?_
        refine v_isub hX eX7_turnToNext_33 ?_
        refine v_istore_n hX eX7_turnToNext_34 rfl rfl ?_
        exact r0
  have f0 := first (L - 1) (by omega) rfl none none none
  rw [show ((L - 1 : Nat) : Int) - 1 = (L : Int) - 2 by omega] at f0
  show VW X 0 [some (mA 6), some (mI L), none, none, none, none] [] (setR h 6 f)
  refine v_iload_n hX eX7_turnToNext_0 rfl ?_
  refine v_iconst hX eX7_turnToNext_1 ?_
  refine v_isub hX eX7_turnToNext_2 ?_
  refine v_istore_n hX eX7_turnToNext_3 rfl rfl ?_
  exact f0
/-! the RANKS that a row tells -/
def trN (f tr : Nat → Int) : Nat → Nat → Int
  | 0, j => tr j
  | i + 1, j => if (j : Int) = f i then (i : Int) + 1 else trN f tr i j
theorem trN_hit {f tr tr' : Nat → Int} {j : Nat} : ∀ n, (∃ i, i < n ∧ f i = j) → trN f tr n j = trN f tr' n j
  | 0, h => by obtain ⟨i, hi, _⟩ := h; omega
  | n + 1, h => by
    rw [trN, trN]
    by_cases e : (j : Int) = f n
    · rw [if_pos e, if_pos e]
    · rw [if_neg e, if_neg e]
      refine trN_hit n ?_
      obtain ⟨i, hi, e2⟩ := h
      refine ⟨i, ?_, e2⟩
      by_cases e3 : i = n
      · exact absurd (e3 ▸ e2).symm e
      · omega
theorem trN_miss {f tr : Nat → Int} {j : Nat} : ∀ n, (∀ i, i < n → f i ≠ j) → trN f tr n j = tr j
  | 0, _ => rfl
  | n + 1, h => by
    rw [trN, if_neg (fun e => h n (by omega) e.symm)]
    exact trN_miss n (fun i hi => h i (by omega))
theorem trN_rng {f tr : Nat → Int} (ht : ∀ j, j < 5 → 0 ≤ tr j ∧ tr j ≤ 6) : ∀ n, n ≤ 5 → ∀ j, j < 5 → 0 ≤ trN f tr n j ∧ trN f tr n j ≤ 6
  | 0, _, j, hj => ht j hj
  | n + 1, hn, j, hj => by
    rw [trN]
    split
    · omega
    · exact trN_rng ht n (by omega) j hj
theorem trN_s {h : Hp} {f tr : Nat → Int} {i : Nat} (hi : 0 ≤ f i) : up (setR h 7 (trN f tr i)) 7 (f i).toNat ((i : Int) + 1) = setR h 7 (trN f tr (i + 1)) := by
  funext a b
  simp only [up, setR]
  by_cases ha : a = 7
  · subst ha
    by_cases hb : (b : Int) = f i
    · have hx : b = (f i).toNat := by omega
      simp only [hx, and_self, if_true, trN]
      rw [if_pos (by omega)]
    · have hx : ¬ b = (f i).toNat := by omega
      simp only [hx, and_false, if_false, if_true, trN, hb]
  · simp [ha]
set_option maxHeartbeats 2000000 in
set_option maxRecDepth 20000 in
theorem c_X7_rankByTale {d : Nat} {h : Hp} {L : Nat} {tr : Nat → Int} (hL : L ≤ 5) (hf : PF (h 6) L) : Fn d MX7_rankByTale [mA 0, mI L] (setR h 7 tr) none (setR h 7 (trN (h 6) tr L)) := by
  intro Q hq X hX hR
  have loop : ∀ i : Nat, i ≤ L → ∀ l3, VW X 2 [some (mA 0), some (mI L), some (mI i), l3] [] (setR h 7 (trN (h 6) tr i)) := by
    refine loop_up _ ?_ ?_
    · intro l3
      refine v_iload_n hX eX7_rankByTale_2 rfl ?_
      refine v_iload_n hX eX7_rankByTale_3 rfl ?_
      refine v_icmp_ge hX eX7_rankByTale_4 (tgt := 42) rfl ⟨by omega, by omega⟩ ⟨by omega, by omega⟩ (fun c4 => ?_) (fun c4 => False.elim ((by omega)))
      exact v_return hX hR eX7_rankByTale_42 rfl (hq)
    · intro i hi ih l3
      have hv := hf.1 i hi
      have r6 : ∀ g, setR h 7 g 6 = h 6 := fun g => setR_ne (by decide)
      refine v_iload_n hX eX7_rankByTale_2 rfl ?_
      refine v_iload_n hX eX7_rankByTale_3 rfl ?_
      refine v_icmp_ge hX eX7_rankByTale_4 (tgt := 42) rfl ⟨by omega, by omega⟩ ⟨by omega, by omega⟩ (fun c4 => False.elim ((by omega))) (fun c4 => ?_)
      refine v_aload_n hX eX7_rankByTale_7 rfl ?_
      refine v_getA hX eX7_rankByTale_8 fi_X7_37 ⟨by decide, rfl⟩ rfl ?_
      refine v_iload_n hX eX7_rankByTale_11 rfl ?_
      refine v_iald hX eX7_rankByTale_12 (by first | exact ⟨by decide, rfl⟩ | exact AR_rk (by omega)) ⟨by omega, by omega⟩ ?_
      try simp only [Int.toNat_natCast, Int.toNat_zero, Int.reduceToNat]
      rw [r6]
      refine v_istore_n hX eX7_rankByTale_13 rfl rfl ?_
      refine v_iload_n hX eX7_rankByTale_14 rfl ?_
      refine v_if_lt hX eX7_rankByTale_15 (tgt := 36) rfl ⟨by omega, by omega⟩ (fun c15 => False.elim ((by omega))) (fun c15 => ?_)
      refine v_iload_n hX eX7_rankByTale_18 rfl ?_
      refine v_aload_n hX eX7_rankByTale_19 rfl ?_
      refine v_getA hX eX7_rankByTale_20 fi_X7_40 ⟨by decide, rfl⟩ rfl ?_
      refine v_alen hX eX7_rankByTale_23 (by first | exact ⟨by decide, rfl⟩ | exact AR_rk (by omega)) ?_
      refine v_icmp_ge hX eX7_rankByTale_24 (tgt := 36) rfl ⟨by omega, by omega⟩ ⟨by omega, by omega⟩ (fun c24 => False.elim ((by omega))) (fun c24 => ?_)
      refine v_aload_n hX eX7_rankByTale_27 rfl ?_
      refine v_getA hX eX7_rankByTale_28 fi_X7_40 ⟨by decide, rfl⟩ rfl ?_
      refine v_iload_n hX eX7_rankByTale_31 rfl ?_
      refine v_iload_n hX eX7_rankByTale_32 rfl ?_
      refine v_iconst hX eX7_rankByTale_33 ?_
      refine v_iadd hX eX7_rankByTale_34 ?_
      refine v_iast hX eX7_rankByTale_35 (by first | exact ⟨by decide, rfl⟩ | exact AR_rk (by omega)) ⟨by omega, by omega⟩ ?_
      try simp only [Int.toNat_natCast, Int.toNat_zero, Int.reduceToNat]
      rw [trN_s hv.1]
      refine v_iinc hX eX7_rankByTale_36 rfl rfl rfl ?_
      refine v_goto hX eX7_rankByTale_39 (tgt := 2) rfl ?_
      exact ih _
  show VW X 0 [some (mA 0), some (mI L), none, none] [] (setR h 7 tr)
  refine v_iconst hX eX7_rankByTale_0 ?_
  refine v_istore_n hX eX7_rankByTale_1 rfl rfl ?_
  exact loop 0 (by omega) _
/-! the search depends on its surroundings alone -/
def EV7 (e g : Hp) : Prop := g 2 6 = e 2 6 ∧ g 2 7 = e 2 7 ∧ g 13 = e 13 ∧ g 17 = e 17 ∧ g 19 = e 19 ∧ g 20 = e 20
theorem isP_env {e g : Hp} (h : EV7 e g) : isP g = isP e := by funext j; unfold isP; rw [h.1]
theorem gU_env {e g : Hp} (h : EV7 e g) (t : Nat → Int) (p : Nat) (q : Int) : gU g t p q = gU e t p q := by unfold gU; rw [isP_env h]
theorem cA_env {e g : Hp} (h : EV7 e g) (t : Nat → Int) : ∀ p, cA g t p = cA e t p
  | 0 => rfl
  | p + 1 => by rw [cA, cA, cA_env h t p, isP_env h, h.2.2.2.2.1]
theorem lU_env {e g : Hp} (h : EV7 e g) (t : Nat → Int) : ∀ p, lU g t p = lU e t p
  | 0 => rfl
  | p + 1 => by rw [lU, lU, lU_env h t p, isP_env h, h.2.2.2.2.2]
theorem prs_env {e g : Hp} (h : EV7 e g) (t : Nat → Int) : ∀ p, prs g t p = prs e t p
  | 0 => rfl
  | p + 1 => by rw [prs, prs, prs_env h t p, isP_env h, h.2.2.1, gU_env h]
theorem jst_env {e g : Hp} (h : EV7 e g) (lw : Int) (t : Nat → Int) (s : SGT) : jst g lw t s = jst e lw t s := by
  have ho : okF g t = okF e t := by
    unfold okF
    rw [h.2.1, h.2.2.2.1]
    simp only [gU_env h]
  unfold jst cU
  rw [ho, cA_env h, prs_env h, lU_env h]
theorem ext_env {e g : Hp} (h : EV7 e g) (lw : Int) : ∀ (k : Nat) (t : Nat → Int) (s : SGT), ext g lw k t s = ext e lw k t s
  | 0, t, s => jst_env h lw t s
  | k + 1, t, s => by
    rw [ext, ext, isP_env h, h.2.1]
    split
    · exact foldq_congr _ _ (fun q s _ => ext_env h lw k _ s)
    · exact ext_env h lw k t s
/-- what was found before doesn't matter -/
def FS (s u : SGT) : Prop := s.1 = u.1 ∧ s.2.1 = u.2.1 ∧ s.2.2.1 = u.2.2.1 ∧ 0 ≤ s.2.2.1 ∧ (0 < s.2.2.1 → ∀ j, j < 8 → s.2.2.2 j = u.2.2.2 j)
theorem jst_FS {e : Hp} {t : Nat → Int} {s u : SGT} (h : FS s u) : FS (jst e 1 t s) (jst e 1 t u) := by
  obtain ⟨h1, h2, h3, h4, h5⟩ := h
  unfold jst
  rw [← h1, ← h2, ← h3]
  split
  · rw [if_neg (by decide), if_neg (by decide)]
    refine ⟨rfl, rfl, rfl, ?_, fun _ j hj => ?_⟩
    · show 0 ≤ s.2.2.1 + 1; omega
    · show cpy t s.2.2.2 j = cpy t u.2.2.2 j
      rw [cpy, cpy, if_pos hj, if_pos hj]
  · exact ⟨h1, h2, h3, h4, h5⟩
theorem foldq_rel {σ τ : Type} {R : σ → τ → Prop} {f : Nat → σ → σ} {g : Nat → τ → τ} : ∀ n s u, (∀ q s u, q < n → R s u → R (f q s) (g q u)) → R s u → R (foldq f n s) (foldq g n u)
  | 0, _, _, _, h => h
  | n + 1, s, u, hq, h => hq n _ _ (by omega) (foldq_rel n s u (fun q s u hq2 => hq q s u (by omega)) h)
theorem ext_FS {e : Hp} : ∀ (k : Nat) (t : Nat → Int) (s u : SGT), FS s u → FS (ext e 1 k t s) (ext e 1 k t u)
  | 0, t, s, u, h => jst_FS h
  | k + 1, t, s, u, h => by
    rw [ext, ext]
    split
    · exact foldq_rel _ _ _ (fun q s u _ h => ext_FS k _ s u h) h
    · exact ext_FS k t s u h
/-- the surroundings when a PUPIL tells other RANKS -/
def rk5 (tr : Nat → Int) (c : Nat) : Int := if c < 5 then tr c else 6
def eT (e : Hp) (p : Nat) (pl s : Int) (tr : Nat → Int) : Hp := fun a b => if a = 19 ∧ 6 * p ≤ b ∧ b < 6 * p + 6 then cstV (rk5 tr (b - 6 * p)) s else if a = 20 ∧ 6 * p ≤ b ∧ b < 6 * p + 6 then digV (rk5 tr (b - 6 * p)) ((b - 6 * p : Nat) : Int) pl else e a b
noncomputable def tlR (e : Hp) (p : Nat) (pl s : Int) (tr : Nat → Int) : SGT := ext (eT e p pl s tr) 1 8 (fun _ => -1) (ABV, ABV, 0, fun _ => 0)
def payC (e : Hp) (p : Nat) (pl s honest : Int) (L : Nat) (tr0 f : Nat → Int) : Prop := 0 < (tlR e p pl s (trN f tr0 L)).2.2.1 ∧ rkI e p ((tlR e p pl s (trN f tr0 L)).2.2.2 p) < honest
noncomputable def tlC (pay : (Nat → Int) → Prop) (L : Nat) : Nat → (Nat → Int) → Option (Nat → Int)
  | 0, _ => none
  | k + 1, f => if pb (pay f) = true then some f else if tnF f (L - 1) < 0 then none else tlC pay L k (nxA L f)
