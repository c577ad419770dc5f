/-! Ledger -/
set_option maxHeartbeats 2000000 in
set_option maxRecDepth 20000 in
theorem c_X1_cellOf {d : Nat} {h : Hp} {y p : Int} (hy : 0 ≤ y ∧ y < 60) (hp : 0 ≤ p ∧ p < 8) : Fn d MX1_cellOf [mI y, mI p] h (some (mI (y * 8 + p))) h := by
  intro Q hq X hX hR
  show VW X 0 [some (mI y), some (mI p), none] [] h
  refine v_iload_n hX eX1_cellOf_0 rfl ?_
  refine v_if_lt hX eX1_cellOf_1 (tgt := 24) rfl ⟨by omega, by omega⟩ (fun c1 => False.elim ((by omega))) (fun c1 => ?_)
  refine v_iload_n hX eX1_cellOf_4 rfl ?_
  refine v_bipush hX eX1_cellOf_5 (by decide) ?_
  refine v_icmp_ge hX eX1_cellOf_7 (tgt := 24) rfl ⟨by omega, by omega⟩ ⟨by omega, by omega⟩ (fun c7 => False.elim ((by omega))) (fun c7 => ?_)
  refine v_iload_n hX eX1_cellOf_10 rfl ?_
  refine v_if_lt hX eX1_cellOf_11 (tgt := 24) rfl ⟨by omega, by omega⟩ (fun c11 => False.elim ((by omega))) (fun c11 => ?_)
  refine v_iload_n hX eX1_cellOf_14 rfl ?_
  refine v_bipush hX eX1_cellOf_15 (by decide) ?_
  refine v_icmp_ge hX eX1_cellOf_17 (tgt := 24) rfl ⟨by omega, by omega⟩ ⟨by omega, by omega⟩ (fun c17 => False.elim ((by omega))) (fun c17 => ?_)
  refine v_iconst hX eX1_cellOf_20 ?_
  refine v_goto hX eX1_cellOf_21 (tgt := 25) rfl ?_
  refine v_istore_n hX eX1_cellOf_25 rfl rfl ?_
  refine v_iload_n hX eX1_cellOf_26 rfl ?_
  refine v_if_eq hX eX1_cellOf_27 (tgt := 39) rfl ⟨by omega, by omega⟩ (fun c27 => False.elim ((by omega))) (fun c27 => ?_)
  refine v_iload_n hX eX1_cellOf_30 rfl ?_
  refine v_bipush hX eX1_cellOf_31 (by decide) ?_
  refine v_imul hX eX1_cellOf_33 ?_
  refine v_iload_n hX eX1_cellOf_34 rfl ?_
  refine v_iadd hX eX1_cellOf_35 ?_
  refine v_goto hX eX1_cellOf_36 (tgt := 40) rfl ?_
  exact v_ireturn hX hR eX1_cellOf_40 rfl (hq)
set_option maxHeartbeats 2000000 in
set_option maxRecDepth 20000 in
theorem c_X1_note {d : Nat} {h : Hp} {p q r : Int} (hy : 0 ≤ h 3 2 ∧ h 3 2 < 60) (hp : 0 ≤ p ∧ p < 8) : Fn (d + 1) MX1_note [mA 3, mI p, mI q, mI r] h none (up (up h 21 (h 3 2 * 8 + p).toNat q) 22 (h 3 2 * 8 + p).toNat r) := by
  intro Q hq X hX hR
  show VW X 0 [some (mA 3), some (mI p), some (mI q), some (mI r), none] [] h
  refine v_aload_n hX eX1_note_0 rfl ?_
  refine v_getI hX eX1_note_1 fi_X1_18 ⟨by decide, rfl⟩ ?_
  refine v_iload_n hX eX1_note_4 rfl ?_
  refine v_fnS hX eX1_note_5 lS_X1_22 ok_MX1_cellOf ⟨rfl, Nat.le_of_ble_eq_true rfl⟩ (Nat.le_of_ble_eq_true rfl) (c_X1_cellOf hy hp) rfl ?_
  try simp only [Int.toNat_natCast, Int.toNat_zero, Int.reduceToNat]
  refine v_istore hX eX1_note_8 rfl rfl ?_
  refine v_iload hX eX1_note_10 rfl ?_
  refine v_iconst hX eX1_note_12 ?_
  refine v_icmp_eq hX eX1_note_13 (tgt := 32) rfl ⟨by omega, by omega⟩ ⟨by omega, by omega⟩ (fun c13 => False.elim ((by omega))) (fun c13 => ?_)
  refine v_aload_n hX eX1_note_16 rfl ?_
  refine v_getA hX eX1_note_17 fi_X1_9 ⟨by decide, rfl⟩ rfl ?_
  refine v_iload hX eX1_note_20 rfl ?_
  refine v_iload_n hX eX1_note_22 rfl ?_
  refine v_iast hX eX1_note_23 (by first | exact ⟨by decide, rfl⟩ | exact AR_rk (by omega)) ⟨by omega, by omega⟩ ?_
  try simp only [Int.toNat_natCast, Int.toNat_zero, Int.reduceToNat]
  refine v_aload_n hX eX1_note_24 rfl ?_
  refine v_getA hX eX1_note_25 fi_X1_15 ⟨by decide, rfl⟩ rfl ?_
  refine v_iload hX eX1_note_28 rfl ?_
  refine v_iload_n hX eX1_note_30 rfl ?_
  refine v_iast hX eX1_note_31 (by first | exact ⟨by decide, rfl⟩ | exact AR_rk (by omega)) ⟨by omega, by omega⟩ ?_
  try simp only [Int.toNat_natCast, Int.toNat_zero, Int.reduceToNat]
  exact v_return hX hR eX1_note_32 rfl (hq)
set_option maxHeartbeats 2000000 in
set_option maxRecDepth 20000 in
theorem c_X1_projectOf {d : Nat} {h : Hp} {y p : Int} (hy : 0 ≤ y ∧ y < 60) (hp : 0 ≤ p ∧ p < 8) : Fn (d + 1) MX1_projectOf [mA 3, mI y, mI p] h (some (mI (h 21 (y * 8 + p).toNat))) h := by
  intro Q hq X hX hR
  show VW X 0 [some (mA 3), some (mI y), some (mI p), none] [] h
  refine v_iload_n hX eX1_projectOf_0 rfl ?_
  refine v_iload_n hX eX1_projectOf_1 rfl ?_
  refine v_fnS hX eX1_projectOf_2 lS_X1_22 ok_MX1_cellOf ⟨rfl, Nat.le_of_ble_eq_true rfl⟩ (Nat.le_of_ble_eq_true rfl) (c_X1_cellOf hy hp) rfl ?_
  try simp only [Int.toNat_natCast, Int.toNat_zero, Int.reduceToNat]
  refine v_istore_n hX eX1_projectOf_5 rfl rfl ?_
  refine v_iload_n hX eX1_projectOf_6 rfl ?_
  refine v_iconst hX eX1_projectOf_7 ?_
  refine v_icmp_ne hX eX1_projectOf_8 (tgt := 15) rfl ⟨by omega, by omega⟩ ⟨by omega, by omega⟩ (fun c8 => ?_) (fun c8 => False.elim ((by omega)))
  refine v_aload_n hX eX1_projectOf_15 rfl ?_
  refine v_getA hX eX1_projectOf_16 fi_X1_9 ⟨by decide, rfl⟩ rfl ?_
  refine v_iload_n hX eX1_projectOf_19 rfl ?_
  refine v_iald hX eX1_projectOf_20 (by first | exact ⟨by decide, rfl⟩ | exact AR_rk (by omega)) ⟨by omega, by omega⟩ ?_
  try simp only [Int.toNat_natCast, Int.toNat_zero, Int.reduceToNat]
  exact v_ireturn hX hR eX1_projectOf_21 rfl (hq)
set_option maxHeartbeats 2000000 in
set_option maxRecDepth 20000 in
theorem c_X1_rankOf {d : Nat} {h : Hp} {y p : Int} (hy : 0 ≤ y ∧ y < 60) (hp : 0 ≤ p ∧ p < 8) : Fn (d + 1) MX1_rankOf [mA 3, mI y, mI p] h (some (mI (h 22 (y * 8 + p).toNat))) h := by
  intro Q hq X hX hR
  show VW X 0 [some (mA 3), some (mI y), some (mI p), none] [] h
  refine v_iload_n hX eX1_rankOf_0 rfl ?_
  refine v_iload_n hX eX1_rankOf_1 rfl ?_
  refine v_fnS hX eX1_rankOf_2 lS_X1_22 ok_MX1_cellOf ⟨rfl, Nat.le_of_ble_eq_true rfl⟩ (Nat.le_of_ble_eq_true rfl) (c_X1_cellOf hy hp) rfl ?_
  try simp only [Int.toNat_natCast, Int.toNat_zero, Int.reduceToNat]
  refine v_istore_n hX eX1_rankOf_5 rfl rfl ?_
  refine v_iload_n hX eX1_rankOf_6 rfl ?_
  refine v_iconst hX eX1_rankOf_7 ?_
  refine v_icmp_ne hX eX1_rankOf_8 (tgt := 15) rfl ⟨by omega, by omega⟩ ⟨by omega, by omega⟩ (fun c8 => ?_) (fun c8 => False.elim ((by omega)))
  refine v_aload_n hX eX1_rankOf_15 rfl ?_
  refine v_getA hX eX1_rankOf_16 fi_X1_15 ⟨by decide, rfl⟩ rfl ?_
  refine v_iload_n hX eX1_rankOf_19 rfl ?_
  refine v_iald hX eX1_rankOf_20 (by first | exact ⟨by decide, rfl⟩ | exact AR_rk (by omega)) ⟨by omega, by omega⟩ ?_
  try simp only [Int.toNat_natCast, Int.toNat_zero, Int.reduceToNat]
  exact v_ireturn hX hR eX1_rankOf_21 rfl (hq)
/-! book -/
def pos1 (r : Int) : Int := if 0 < r then r - 1 else 0
def BKi (h : Hp) (i : Nat) : Hp := fun a b =>
  if a = 21 ∧ 8 * (h 3 2).toNat ≤ b ∧ b < 8 * (h 3 2).toNat + i then h 4 (b - 8 * (h 3 2).toNat)
  else if a = 22 ∧ 8 * (h 3 2).toNat ≤ b ∧ b < 8 * (h 3 2).toNat + i then rkP h (b - 8 * (h 3 2).toNat)
  else if a = 4 ∧ b < i then -1
  else if 23 ≤ a ∧ a < 23 + i ∧ b = 3 then h a 3 + pos1 (rkP h (a - 23)) else h a b
theorem BKi_0 {h : Hp} : BKi h 0 = h := by
  funext a b
  rw [BKi, if_neg (by omega), if_neg (by omega), if_neg (by omega), if_neg (by omega)]
theorem BKi_o {h : Hp} {i a b : Nat} (h1 : a ≠ 21) (h2 : a ≠ 22) (h3 : a ≠ 4) (h4 : ¬ (23 ≤ a ∧ a < 23 + i ∧ b = 3)) : BKi h i a b = h a b := by
  rw [BKi, if_neg (by omega), if_neg (by omega), if_neg (by omega), if_neg h4]
theorem BKi_s {h : Hp} {p : Nat} : up (if 0 < rkP h p then up (up (up (BKi h p) 21 (8 * (h 3 2).toNat + p) (h 4 p)) 22 (8 * (h 3 2).toNat + p) (rkP h p)) (23 + p) 3 (h (23 + p) 3 + (rkP h p - 1)) else up (up (BKi h p) 21 (8 * (h 3 2).toNat + p) (h 4 p)) 22 (8 * (h 3 2).toNat + p) (rkP h p)) 4 p (-1) = BKi h (p + 1) := by
  funext a b
  by_cases a21 : a = 21
  · subst a21
    have e : up (if 0 < rkP h p then up (up (up (BKi h p) 21 (8 * (h 3 2).toNat + p) (h 4 p)) 22 (8 * (h 3 2).toNat + p) (rkP h p)) (23 + p) 3 (h (23 + p) 3 + (rkP h p - 1)) else up (up (BKi h p) 21 (8 * (h 3 2).toNat + p) (h 4 p)) 22 (8 * (h 3 2).toNat + p) (rkP h p)) 4 p (-1) 21 b = if b = 8 * (h 3 2).toNat + p then h 4 p else BKi h p 21 b := by
      rw [up_ob (by decide)]
      split
      · rw [up_ob (by omega), up_ob (by decide)]; simp only [up, true_and]
      · rw [up_ob (by decide)]; simp only [up, true_and]
    rw [e]
    unfold BKi
    by_cases hb : b = 8 * (h 3 2).toNat + p
    · subst hb
      rw [if_pos rfl, if_pos (by omega), show 8 * (h 3 2).toNat + p - 8 * (h 3 2).toNat = p by omega]
    · rw [if_neg hb]
      have : (b < 8 * (h 3 2).toNat + (p + 1) ↔ b < 8 * (h 3 2).toNat + p) := by omega
      simp [this]
  · by_cases a22 : a = 22
    · subst a22
      have e : up (if 0 < rkP h p then up (up (up (BKi h p) 21 (8 * (h 3 2).toNat + p) (h 4 p)) 22 (8 * (h 3 2).toNat + p) (rkP h p)) (23 + p) 3 (h (23 + p) 3 + (rkP h p - 1)) else up (up (BKi h p) 21 (8 * (h 3 2).toNat + p) (h 4 p)) 22 (8 * (h 3 2).toNat + p) (rkP h p)) 4 p (-1) 22 b = if b = 8 * (h 3 2).toNat + p then rkP h p else BKi h p 22 b := by
        rw [up_ob (by decide)]
        split
        · rw [up_ob (by omega)]
          by_cases hb : b = 8 * (h 3 2).toNat + p
          · subst hb; rw [up_same, if_pos rfl]
          · rw [up_ne (by omega), up_ob (by decide), if_neg hb]
        · by_cases hb : b = 8 * (h 3 2).toNat + p
          · subst hb; rw [up_same, if_pos rfl]
          · rw [up_ne (by omega), up_ob (by decide), if_neg hb]
      rw [e]
      unfold BKi
      by_cases hb : b = 8 * (h 3 2).toNat + p
      · subst hb
        rw [if_pos rfl, if_neg (by omega), if_pos (by omega), show 8 * (h 3 2).toNat + p - 8 * (h 3 2).toNat = p by omega]
      · rw [if_neg hb]
        have : (b < 8 * (h 3 2).toNat + (p + 1) ↔ b < 8 * (h 3 2).toNat + p) := by omega
        simp [this]
    · by_cases a4 : a = 4
      · subst a4
        unfold BKi
        by_cases hb : b = p
        · subst hb
          rw [up_same, if_neg (by omega), if_neg (by omega), if_pos (by omega)]
        · rw [up_ne (by omega)]
          have : (b < p + 1 ↔ b < p) := by omega
          split
          · rw [up_ob (by omega), up_ob (by decide), up_ob (by decide)]
            simp [this]
          · rw [up_ob (by decide), up_ob (by decide)]
            simp [this]
      · rw [up_ob a4]
        by_cases ap : a = 23 + p ∧ b = 3
        · obtain ⟨rfl, rfl⟩ := ap
          have : BKi h (p + 1) (23 + p) 3 = h (23 + p) 3 + pos1 (rkP h p) := by
            rw [BKi, if_neg (by omega), if_neg (by omega), if_neg (by omega), if_pos (by omega), show 23 + p - 23 = p by omega]
          rw [this, pos1]
          split
          · rw [up_same]
          · rw [up_ob (by omega), up_ob (by omega), BKi_o (by omega) (by omega) (by omega) (by omega), Int.add_zero]
        · have e1 : (if 0 < rkP h p then up (up (up (BKi h p) 21 (8 * (h 3 2).toNat + p) (h 4 p)) 22 (8 * (h 3 2).toNat + p) (rkP h p)) (23 + p) 3 (h (23 + p) 3 + (rkP h p - 1)) else up (up (BKi h p) 21 (8 * (h 3 2).toNat + p) (h 4 p)) 22 (8 * (h 3 2).toNat + p) (rkP h p)) a b = BKi h p a b := by
            split
            · rw [up_ne ap, up_ob a22, up_ob a21]
            · rw [up_ob a22, up_ob a21]
          rw [e1]
          unfold BKi
          have : (23 ≤ a ∧ a < 23 + (p + 1) ∧ b = 3) ↔ (23 ≤ a ∧ a < 23 + p ∧ b = 3) := by omega
          simp only [a21, a22, a4, false_and, if_false, this]
theorem BKi_RI {h : Hp} (hI : RI h) (hs : ∀ p, p < 8 → h (23 + p) 3 ≤ 295) {i : Nat} (hi : i ≤ 8) : RI (BKi h i) := by
  obtain ⟨a1, a2, a3, a4, a5⟩ := id hI
  have o1 : BKi h i 1 = h 1 := funext fun b => BKi_o (by decide) (by decide) (by decide) (by omega)
  have o10 : BKi h i 10 = h 10 := funext fun b => BKi_o (by decide) (by decide) (by decide) (by omega)
  refine ⟨by rw [o1]; exact a1, by rw [o1]; exact a2, fun p hp => ?_, fun q hq => ?_, by rw [o10]; exact a5⟩
  · have hp3 := a3 p hp
    have hs3 := hs p hp
    have oo : ∀ j, j ≠ 3 → BKi h i (23 + p) j = h (23 + p) j := fun j hj => BKi_o (by omega) (by omega) (by omega) (fun z => hj z.2.2)
    have or : BKi h i (31 + p) = h (31 + p) := funext fun b => BKi_o (by omega) (by omega) (by omega) (by omega)
    have sc : 0 ≤ BKi h i (23 + p) 3 ∧ BKi h i (23 + p) 3 ≤ 300 := by
      have s0 := hp3.2.2.1
      rw [BKi, if_neg (by omega), if_neg (by omega), if_neg (by omega), show 23 + p - 23 = p by omega]
      have hr : rkP h p ≤ 6 := by
        unfold rkP
        split
        · exact (rkI_rng hI hp _).2
        · decide
      split
      · unfold pos1
        split <;> omega
      · omega
    unfold PUOK at hp3 ⊢
    rw [oo 1 (by decide), oo 2 (by decide), oo 4 (by decide), oo 5 (by decide), oo 6 (by decide), or]
    exact ⟨hp3.1, hp3.2.1, sc, hp3.2.2.2⟩
  · have := a4 q hq
    have oq : BKi h i (39 + q) = h (39 + q) := funext fun b => BKi_o (by omega) (by omega) (by omega) (by omega)
    unfold PROK at this ⊢
    rw [oq]
    exact this
theorem BKi_PLI {h : Hp} (hL : PLI h) {i : Nat} : PLI (BKi h i) := by
  intro p hp
  have := hL p hp
  unfold BKi
  rw [if_neg (by omega), if_neg (by omega)]
  split
  · decide
  · rw [if_neg (by omega)]; exact this
theorem BKi_rkP {h : Hp} {p : Nat} : rkP (BKi h p) p = rkP h p := by
  have o1 : BKi h p 1 = h 1 := funext fun b => BKi_o (by decide) (by decide) (by decide) (by omega)
  have or : BKi h p (31 + p) = h (31 + p) := funext fun b => BKi_o (by omega) (by omega) (by omega) (by omega)
  have o4 : BKi h p 4 p = h 4 p := by
    unfold BKi
    rw [if_neg (by omega), if_neg (by omega), if_neg (by omega), if_neg (by omega)]
  unfold rkP rkI
  rw [o1, o4, or]
set_option maxHeartbeats 2000000 in
set_option maxRecDepth 20000 in
theorem c_X7_book {d : Nat} {h : Hp} (hI : RI h) (hL : PLI h) (hy : 0 ≤ h 3 2 ∧ h 3 2 < 60) (hs : ∀ p, p < 8 → h (23 + p) 3 ≤ 295) (hf : flt h = 0) : Fn (d + 5) MX7_book [mA 0] h (some (mI 1)) (up (BKi h 8) 3 2 (h 3 2 + 1)) := by
  intro Q hq X hX hR
  have hn := hI.n
  have o3 : ∀ i, BKi h i 3 2 = h 3 2 := fun i => BKi_o (by decide) (by decide) (by decide) (by omega)
  have loop : ∀ i : Nat, i ≤ 8 → ∀ l2, VW X 32 [some (mA 0), some (mI i), l2] [] (BKi h i) := by
    refine loop_up 8 ?_ ?_
    · intro l2
      refine v_iload_n hX eX7_book_32 rfl ?_
      refine v_bipush hX eX7_book_33 (by decide) ?_
      refine v_icmp_ge hX eX7_book_35 (tgt := 87) rfl ⟨by omega, by omega⟩ ⟨by omega, by omega⟩ (fun c35 => ?_) (fun c35 => False.elim ((by omega)))
      refine v_aload_n hX eX7_book_87 rfl ?_
      refine v_getA hX eX7_book_88 fi_X7_26 ⟨by decide, rfl⟩ rfl ?_
      refine v_dup hX eX7_book_91 rfl ?_
      refine v_getI hX eX7_book_92 fi_X7_116 ⟨by decide, rfl⟩ ?_
      rw [o3]
      refine v_iconst hX eX7_book_95 ?_
      refine v_iadd hX eX7_book_96 ?_
      refine v_putI hX eX7_book_97 fi_X7_116 ⟨by decide, rfl⟩ ?_
      refine v_iconst hX eX7_book_100 ?_
      exact v_ireturn hX hR eX7_book_101 rfl (hq)
    · intro i hi ih l2
      have bi := BKi_RI hI hs (i := i) (by omega)
      have s := BKi_s (h := h) (p := i)
      have o4 : BKi h i 4 i = h 4 i := by
        unfold BKi
        rw [if_neg (by omega), if_neg (by omega), if_neg (by omega), if_neg (by omega)]
      have ei : (h 3 2 * 8 + (i : Int)).toNat = 8 * (h 3 2).toNat + i := by omega
      have rr : rng (rkP h i) := by
        unfold rkP
        split
        · have := rkI_rng hI hi (h 4 i); omega
        · decide
      by_cases hr : 0 < rkP h i
      · rw [if_pos hr] at s
        have hin : i < (h 1 3).toNat := Classical.byContradiction (fun z => by
          unfold rkP at hr
          rw [if_neg (fun y => z y.1)] at hr
          omega)
        have hI3 : RI (up (up (BKi h i) 21 (8 * (h 3 2).toNat + i) (h 4 i)) 22 (8 * (h 3 2).toNat + i) (rkP h i)) := (bi.up (by decide)).up (by decide)
        have osc : up (up (BKi h i) 21 (8 * (h 3 2).toNat + i) (h 4 i)) 22 (8 * (h 3 2).toNat + i) (rkP h i) (23 + i) 3 = h (23 + i) 3 := by
          rw [up_ob (by omega), up_ob (by omega), BKi_o (by omega) (by omega) (by omega) (by omega)]
        refine v_iload_n hX eX7_book_32 rfl ?_
        refine v_bipush hX eX7_book_33 (by decide) ?_
        refine v_icmp_ge hX eX7_book_35 (tgt := 87) rfl ⟨by omega, by omega⟩ ⟨by omega, by omega⟩ (fun c35 => False.elim ((by omega))) (fun c35 => ?_)
        refine v_aload_n hX eX7_book_38 rfl ?_
        refine v_iload_n hX eX7_book_39 rfl ?_
        refine v_fnV hX eX7_book_40 lV_X7_195 ok_MX7_rankByPlan ⟨by decide, rfl⟩ rfl ⟨rfl, Nat.le_of_ble_eq_true rfl⟩ (Nat.le_of_ble_eq_true rfl) (c_X7_rankByPlan bi (BKi_PLI hL) hi) rfl ?_
        try simp only [Int.toNat_natCast, Int.toNat_zero, Int.reduceToNat]
        rw [BKi_rkP]
        refine v_istore_n hX eX7_book_43 rfl rfl ?_
        refine v_aload_n hX eX7_book_44 rfl ?_
        refine v_getA hX eX7_book_45 fi_X7_26 ⟨by decide, rfl⟩ rfl ?_
        refine v_iload_n hX eX7_book_48 rfl ?_
        refine v_aload_n hX eX7_book_49 rfl ?_
        refine v_getA hX eX7_book_50 fi_X7_30 ⟨by decide, rfl⟩ rfl ?_
        refine v_iload_n hX eX7_book_53 rfl ?_
        refine v_iald hX eX7_book_54 (by first | exact ⟨by decide, rfl⟩ | exact AR_rk (by omega)) ⟨by omega, by omega⟩ ?_
        try simp only [Int.toNat_natCast, Int.toNat_zero, Int.reduceToNat]
        rw [o4]
        refine v_iload_n hX eX7_book_55 rfl ?_
        refine v_fnV0 hX eX7_book_56 lV_X7_198 ok_MX1_note ⟨by decide, rfl⟩ rfl ⟨rfl, Nat.le_of_ble_eq_true rfl⟩ (Nat.le_of_ble_eq_true rfl) (c_X1_note (by rw [o3]; exact hy) ⟨by omega, by omega⟩) rfl ?_
        try simp only [Int.toNat_natCast, Int.toNat_zero, Int.reduceToNat]
        rw [o3, ei]
        refine v_iload_n hX eX7_book_59 rfl ?_
        refine v_if_le hX eX7_book_60 (tgt := 74) rfl ⟨by omega, by omega⟩ (fun c60 => False.elim ((by omega))) (fun c60 => ?_)
        refine v_aload_n hX eX7_book_63 rfl ?_
        refine v_getA hX eX7_book_64 fi_X7_10 ⟨by decide, rfl⟩ rfl ?_
        refine v_iload_n hX eX7_book_67 rfl ?_
        refine v_iload_n hX eX7_book_68 rfl ?_
        refine v_iconst hX eX7_book_69 ?_
        refine v_isub hX eX7_book_70 ?_
        refine v_fnV0 hX eX7_book_71 lV_X7_202 ok_MX4_addScore ⟨by decide, rfl⟩ rfl ⟨rfl, Nat.le_of_ble_eq_true rfl⟩ (Nat.le_of_ble_eq_true rfl) (c_X4_addScore hI3 ⟨by omega, by rw [up_ob (by decide), up_ob (by decide), BKi_o (by decide) (by decide) (by decide) (by omega)]; omega⟩) rfl ?_
        try simp only [Int.toNat_natCast, Int.toNat_zero, Int.reduceToNat]
        rw [osc]
        refine v_aload_n hX eX7_book_74 rfl ?_
        refine v_getA hX eX7_book_75 fi_X7_30 ⟨by decide, rfl⟩ rfl ?_
        refine v_iload_n hX eX7_book_78 rfl ?_
        refine v_iconst hX eX7_book_79 ?_
        refine v_iast hX eX7_book_80 (by first | exact ⟨by decide, rfl⟩ | exact AR_rk (by omega)) ⟨by omega, by omega⟩ ?_
        try simp only [Int.toNat_natCast, Int.toNat_zero, Int.reduceToNat]
        rw [s]
        refine v_iinc hX eX7_book_81 rfl rfl rfl ?_
        refine v_goto hX eX7_book_84 (tgt := 32) rfl ?_
        exact ih _
      · rw [if_neg hr] at s
        refine v_iload_n hX eX7_book_32 rfl ?_
        refine v_bipush hX eX7_book_33 (by decide) ?_
        refine v_icmp_ge hX eX7_book_35 (tgt := 87) rfl ⟨by omega, by omega⟩ ⟨by omega, by omega⟩ (fun c35 => False.elim ((by omega))) (fun c35 => ?_)
        refine v_aload_n hX eX7_book_38 rfl ?_
        refine v_iload_n hX eX7_book_39 rfl ?_
        refine v_fnV hX eX7_book_40 lV_X7_195 ok_MX7_rankByPlan ⟨by decide, rfl⟩ rfl ⟨rfl, Nat.le_of_ble_eq_true rfl⟩ (Nat.le_of_ble_eq_true rfl) (c_X7_rankByPlan bi (BKi_PLI hL) hi) rfl ?_
        try simp only [Int.toNat_natCast, Int.toNat_zero, Int.reduceToNat]
        rw [BKi_rkP]
        refine v_istore_n hX eX7_book_43 rfl rfl ?_
        refine v_aload_n hX eX7_book_44 rfl ?_
        refine v_getA hX eX7_book_45 fi_X7_26 ⟨by decide, rfl⟩ rfl ?_
        refine v_iload_n hX eX7_book_48 rfl ?_
        refine v_aload_n hX eX7_book_49 rfl ?_
        refine v_getA hX eX7_book_50 fi_X7_30 ⟨by decide, rfl⟩ rfl ?_
        refine v_iload_n hX eX7_book_53 rfl ?_
        refine v_iald hX eX7_book_54 (by first | exact ⟨by decide, rfl⟩ | exact AR_rk (by omega)) ⟨by omega, by omega⟩ ?_
        try simp only [Int.toNat_natCast, Int.toNat_zero, Int.reduceToNat]
        rw [o4]
        refine v_iload_n hX eX7_book_55 rfl ?_
        refine v_fnV0 hX eX7_book_56 lV_X7_198 ok_MX1_note ⟨by decide, rfl⟩ rfl ⟨rfl, Nat.le_of_ble_eq_true rfl⟩ (Nat.le_of_ble_eq_true rfl) (c_X1_note (by rw [o3]; exact hy) ⟨by omega, by omega⟩) rfl ?_
        try simp only [Int.toNat_natCast, Int.toNat_zero, Int.reduceToNat]
        rw [o3, ei]
        refine v_iload_n hX eX7_book_59 rfl ?_
        refine v_if_le hX eX7_book_60 (tgt := 74) rfl ⟨by omega, by omega⟩ (fun c60 => ?_) (fun c60 => False.elim ((by omega)))
        refine v_aload_n hX eX7_book_74 rfl ?_
        refine v_getA hX eX7_book_75 fi_X7_30 ⟨by decide, rfl⟩ rfl ?_
        refine v_iload_n hX eX7_book_78 rfl ?_
        refine v_iconst hX eX7_book_79 ?_
        refine v_iast hX eX7_book_80 (by first | exact ⟨by decide, rfl⟩ | exact AR_rk (by omega)) ⟨by omega, by omega⟩ ?_
        try simp only [Int.toNat_natCast, Int.toNat_zero, Int.reduceToNat]
        rw [s]
        refine v_iinc hX eX7_book_81 rfl rfl rfl ?_
        refine v_goto hX eX7_book_84 (tgt := 32) rfl ?_
        exact ih _
  have l0 := loop 0 (by omega) none
  rw [BKi_0] at l0
  show VW X 0 [some (mA 0), none, none] [] h
  refine v_aload_n hX eX7_book_0 rfl ?_
  refine v_getA hX eX7_book_1 fi_X7_26 ⟨by decide, rfl⟩ rfl ?_
  refine v_getI hX eX7_book_4 fi_X7_116 ⟨by decide, rfl⟩ ?_
  refine v_bipush hX eX7_book_7 (by decide) ?_
  refine v_icmp_lt hX eX7_book_9 (tgt := 14) rfl ⟨by omega, by omega⟩ ⟨by omega, by omega⟩ (fun c9 => ?_) (fun c9 => False.elim ((by omega)))
  refine v_aload_n hX eX7_book_14 rfl ?_
  refine v_getA hX eX7_book_15 fi_X7_10 ⟨by decide, rfl⟩ rfl ?_
  refine v_aload_n hX eX7_book_18 rfl ?_
  refine v_getA hX eX7_book_19 fi_X7_30 ⟨by decide, rfl⟩ rfl ?_
  refine v_fnV hX eX7_book_22 lV_X7_140 ok_MX4_faultOf ⟨by decide, rfl⟩ rfl ⟨rfl, Nat.le_of_ble_eq_true rfl⟩ (Nat.le_of_ble_eq_true rfl) (c_X4_faultOf hI hL) rfl ?_
  try simp only [Int.toNat_natCast, Int.toNat_zero, Int.reduceToNat]
  rw [hf]
  refine v_if_eq hX eX7_book_25 (tgt := 30) rfl ⟨by omega, by omega⟩ (fun c25 => ?_) (fun c25 => False.elim ((c25 rfl)))
  refine v_iconst hX eX7_book_30 ?_
  refine v_istore_n hX eX7_book_31 rfl rfl ?_
  exact l0
theorem flt_rng {h : Hp} (hI : RI h) : 0 ≤ flt h ∧ flt h < 80 := by
  have : ∀ (k : Nat) (f : Int), 1 ≤ f → f + k = 8 → 0 ≤ fltFrom h k f ∧ fltFrom h k f < 80 := by
    intro k
    induction k with
    | zero => intro f h1 h2; simp [fltFrom]
    | succ k ih =>
      intro f h1 h2
      have := fltK_rng hI f
      rw [fltFrom]
      split
      · exact ih (f + 1) (by omega) (by omega)
      · omega
  exact this 7 1 (by decide) (by decide)
set_option maxHeartbeats 2000000 in
set_option maxRecDepth 20000 in
theorem c_X7_book_N {d : Nat} {h : Hp} (hI : RI h) (hL : PLI h) (hy : 0 ≤ h 3 2 ∧ h 3 2 ≤ 60) (hf : flt h ≠ 0 ∨ h 3 2 = 60) : Fn (d + 5) MX7_book [mA 0] h (some (mI (if h 3 2 = 60 then -1 else 0))) h := by
  intro Q hq X hX hR
  have hfr := flt_rng hI
  show VW X 0 [some (mA 0), none, none] [] h
  by_cases h60 : h 3 2 = 60
  · rw [if_pos h60] at hq
    refine v_aload_n hX eX7_book_0 rfl ?_
    refine v_getA hX eX7_book_1 fi_X7_26 ⟨by decide, rfl⟩ rfl ?_
    refine v_getI hX eX7_book_4 fi_X7_116 ⟨by decide, rfl⟩ ?_
    refine v_bipush hX eX7_book_7 (by decide) ?_
    refine v_icmp_lt hX eX7_book_9 (tgt := 14) rfl ⟨by omega, by omega⟩ ⟨by omega, by omega⟩ (fun c9 => False.elim ((by omega))) (fun c9 => ?_)
    refine v_iconst hX eX7_book_12 ?_
    exact v_ireturn hX hR eX7_book_13 rfl (hq)
  · rw [if_neg h60] at hq
    refine v_aload_n hX eX7_book_0 rfl ?_
    refine v_getA hX eX7_book_1 fi_X7_26 ⟨by decide, rfl⟩ rfl ?_
    refine v_getI hX eX7_book_4 fi_X7_116 ⟨by decide, rfl⟩ ?_
    refine v_bipush hX eX7_book_7 (by decide) ?_
    refine v_icmp_lt hX eX7_book_9 (tgt := 14) rfl ⟨by omega, by omega⟩ ⟨by omega, by omega⟩ (fun c9 => ?_) (fun c9 => False.elim ((by omega)))
    refine v_aload_n hX eX7_book_14 rfl ?_
    refine v_getA hX eX7_book_15 fi_X7_10 ⟨by decide, rfl⟩ rfl ?_
    refine v_aload_n hX eX7_book_18 rfl ?_
    refine v_getA hX eX7_book_19 fi_X7_30 ⟨by decide, rfl⟩ rfl ?_
    refine v_fnV hX eX7_book_22 lV_X7_140 ok_MX4_faultOf ⟨by decide, rfl⟩ rfl ⟨rfl, Nat.le_of_ble_eq_true rfl⟩ (Nat.le_of_ble_eq_true rfl) (c_X4_faultOf hI hL) rfl ?_
    try simp only [Int.toNat_natCast, Int.toNat_zero, Int.reduceToNat]
    refine v_if_eq hX eX7_book_25 (tgt := 30) rfl ⟨by omega, by omega⟩ (fun c25 => False.elim ((by omega))) (fun c25 => ?_)
    refine v_iconst hX eX7_book_28 ?_
    exact v_ireturn hX hR eX7_book_29 rfl (hq)
set_option maxHeartbeats 2000000 in
set_option maxRecDepth 20000 in
theorem c_X7_year {d : Nat} {h : Hp} {y p : Int} (hI : RI h) (hy : 0 ≤ h 3 2 ∧ h 3 2 ≤ 60) (hr : rng y) (hrp : rng p) (ok : 0 ≤ y ∧ y < h 3 2 ∧ inN h p) : Fn (d + 2) MX7_year [mA 0, mI y, mI p] h (some (mI (h 22 (y * 8 + p).toNat))) h := by
  intro Q hq X hX hR
  have hp8 := ok.2.2.lt hI
  show VW X 0 [some (mA 0), some (mI y), some (mI p)] [] h
  refine v_iload_n hX eX7_year_0 rfl ?_
  refine v_if_lt hX eX7_year_1 (tgt := 26) rfl ⟨by omega, by omega⟩ (fun c1 => False.elim ((by omega))) (fun c1 => ?_)
  refine v_iload_n hX eX7_year_4 rfl ?_
  refine v_aload_n hX eX7_year_5 rfl ?_
  refine v_getA hX eX7_year_6 fi_X7_26 ⟨by decide, rfl⟩ rfl ?_
  refine v_getI hX eX7_year_9 fi_X7_116 ⟨by decide, rfl⟩ ?_
  refine v_icmp_ge hX eX7_year_12 (tgt := 26) rfl ⟨by omega, by omega⟩ ⟨by omega, by omega⟩ (fun c12 => False.elim ((by omega))) (fun c12 => ?_)
  refine v_aload_n hX eX7_year_15 rfl ?_
  refine v_getA hX eX7_year_16 fi_X7_10 ⟨by decide, rfl⟩ rfl ?_
  refine v_iload_n hX eX7_year_19 rfl ?_
  refine v_fnV hX eX7_year_20 lV_X7_47 ok_MX4_isPupil ⟨by decide, rfl⟩ rfl ⟨rfl, Nat.le_of_ble_eq_true rfl⟩ (Nat.le_of_ble_eq_true rfl) (c_X4_isPupil hI hrp) rfl ?_
  try simp only [Int.toNat_natCast, Int.toNat_zero, Int.reduceToNat]
  refine v_ifB_ne hX eX7_year_23 (tgt := 30) rfl (fun c23 => ?_) (fun c23 => False.elim ((c23 ok.2.2)))
  refine v_aload_n hX eX7_year_30 rfl ?_
  refine v_getA hX eX7_year_31 fi_X7_26 ⟨by decide, rfl⟩ rfl ?_
  refine v_iload_n hX eX7_year_34 rfl ?_
  refine v_iload_n hX eX7_year_35 rfl ?_
  refine v_fnV hX eX7_year_36 lV_X7_205 ok_MX1_rankOf ⟨by decide, rfl⟩ rfl ⟨rfl, Nat.le_of_ble_eq_true rfl⟩ (Nat.le_of_ble_eq_true rfl) (c_X1_rankOf (by omega) hp8) rfl ?_
  try simp only [Int.toNat_natCast, Int.toNat_zero, Int.reduceToNat]
  exact v_ireturn hX hR eX7_year_39 rfl (hq)
set_option maxHeartbeats 2000000 in
set_option maxRecDepth 20000 in
theorem c_X7_year_N {d : Nat} {h : Hp} {y p : Int} (hI : RI h) (hy : 0 ≤ h 3 2 ∧ h 3 2 ≤ 60) (hr : rng y) (hrp : rng p) (bad : ¬ (0 ≤ y ∧ y < h 3 2 ∧ inN h p)) : Fn (d + 2) MX7_year [mA 0, mI y, mI p] h (some (mI (-1))) h := by
  intro Q hq X hX hR
  show VW X 0 [some (mA 0), some (mI y), some (mI p)] [] h
  refine v_iload_n hX eX7_year_0 rfl ?_
  refine v_if_lt hX eX7_year_1 (tgt := 26) rfl ⟨by omega, by omega⟩ (fun c1 => ?_) (fun c1 => ?_)
  · refine v_iconst hX eX7_year_26 ?_
    refine v_goto hX eX7_year_27 (tgt := 39) rfl ?_
    exact v_ireturn hX hR eX7_year_39 rfl (hq)
  · refine v_iload_n hX eX7_year_4 rfl ?_
    refine v_aload_n hX eX7_year_5 rfl ?_
    refine v_getA hX eX7_year_6 fi_X7_26 ⟨by decide, rfl⟩ rfl ?_
    refine v_getI hX eX7_year_9 fi_X7_116 ⟨by decide, rfl⟩ ?_
    refine v_icmp_ge hX eX7_year_12 (tgt := 26) rfl ⟨by omega, by omega⟩ ⟨by omega, by omega⟩ (fun c12 => ?_) (fun c12 => ?_)
    · refine v_iconst hX eX7_year_26 ?_
      refine v_goto hX eX7_year_27 (tgt := 39) rfl ?_
      exact v_ireturn hX hR eX7_year_39 rfl (hq)
    · refine v_aload_n hX eX7_year_15 rfl ?_
      refine v_getA hX eX7_year_16 fi_X7_10 ⟨by decide, rfl⟩ rfl ?_
      refine v_iload_n hX eX7_year_19 rfl ?_
      refine v_fnV hX eX7_year_20 lV_X7_47 ok_MX4_isPupil ⟨by decide, rfl⟩ rfl ⟨rfl, Nat.le_of_ble_eq_true rfl⟩ (Nat.le_of_ble_eq_true rfl) (c_X4_isPupil hI hrp) rfl ?_
      try simp only [Int.toNat_natCast, Int.toNat_zero, Int.reduceToNat]
      refine v_ifB_ne hX eX7_year_23 (tgt := 30) rfl (fun c23 => False.elim ((bad ⟨by omega, by omega, c23⟩))) (fun c23 => ?_)
      refine v_iconst hX eX7_year_26 ?_
      refine v_goto hX eX7_year_27 (tgt := 39) rfl ?_
      exact v_ireturn hX hR eX7_year_39 rfl (hq)
/-! undo -/
def UNi (h : Hp) (i : Nat) : Hp := fun a b =>
  if a = 4 ∧ b < i then h 21 (8 * (h 3 2 - 1).toNat + b)
  else if 23 ≤ a ∧ a < 23 + i ∧ b = 3 then h a 3 - pos1 (h 22 (8 * (h 3 2 - 1).toNat + (a - 23)))
  else up h 3 2 (h 3 2 - 1) a b
theorem UNi_o {h : Hp} {i a b : Nat} (h3 : a ≠ 4) (h4 : ¬ (23 ≤ a ∧ a < 23 + i ∧ b = 3)) : UNi h i a b = up h 3 2 (h 3 2 - 1) a b := by
  rw [UNi, if_neg (by omega), if_neg h4]
theorem UNi_s {h : Hp} {p : Nat} : up (if 0 < h 22 (8 * (h 3 2 - 1).toNat + p) then up (UNi h p) (23 + p) 3 (h (23 + p) 3 + (1 - h 22 (8 * (h 3 2 - 1).toNat + p))) else UNi h p) 4 p (h 21 (8 * (h 3 2 - 1).toNat + p)) = UNi h (p + 1) := by
  funext a b
  by_cases a4 : a = 4
  · subst a4
    unfold UNi
    by_cases hb : b = p
    · subst hb
      rw [up_same, if_pos (by omega)]
    · rw [up_ne (by omega)]
      have : (b < p + 1 ↔ b < p) := by omega
      split
      · rw [up_ob (by omega)]
        simp [this]
      · simp [this]
  · rw [up_ob a4]
    by_cases ap : a = 23 + p ∧ b = 3
    · obtain ⟨rfl, rfl⟩ := ap
      have : UNi h (p + 1) (23 + p) 3 = h (23 + p) 3 - pos1 (h 22 (8 * (h 3 2 - 1).toNat + p)) := by
        rw [UNi, if_neg (by omega), if_pos (by omega), show 23 + p - 23 = p by omega]
      rw [this, pos1]
      split
      · rw [up_same]; omega
      · rw [UNi_o (by omega) (by omega), up_ob (by omega)]; omega
    · have e1 : (if 0 < h 22 (8 * (h 3 2 - 1).toNat + p) then up (UNi h p) (23 + p) 3 (h (23 + p) 3 + (1 - h 22 (8 * (h 3 2 - 1).toNat + p))) else UNi h p) a b = UNi h p a b := by
        split
        · rw [up_ne ap]
        · rfl
      rw [e1]
      unfold UNi
      have : (23 ≤ a ∧ a < 23 + (p + 1) ∧ b = 3) ↔ (23 ≤ a ∧ a < 23 + p ∧ b = 3) := by omega
      simp only [a4, false_and, if_false, this]
set_option maxHeartbeats 2000000 in
set_option maxRecDepth 20000 in
theorem c_X7_undo_N {d : Nat} {h : Hp} (hy : h 3 2 = 0) : Fn (d + 3) MX7_undo [mA 0] h (some (mI (-1))) h := by
  intro Q hq X hX hR
  show VW X 0 [some (mA 0), none, none] [] h
  refine v_aload_n hX eX7_undo_0 rfl ?_
  refine v_getA hX eX7_undo_1 fi_X7_26 ⟨by decide, rfl⟩ rfl ?_
  refine v_getI hX eX7_undo_4 fi_X7_116 ⟨by decide, rfl⟩ ?_
  refine v_if_gt hX eX7_undo_7 (tgt := 12) rfl ⟨by omega, by omega⟩ (fun c7 => False.elim ((by omega))) (fun c7 => ?_)
  refine v_iconst hX eX7_undo_10 ?_
  exact v_ireturn hX hR eX7_undo_11 rfl (hq)
set_option maxHeartbeats 2000000 in
set_option maxRecDepth 20000 in
theorem c_X7_undo {d : Nat} {h : Hp} (hI : RI h) (hy : 0 < h 3 2 ∧ h 3 2 ≤ 60) (hr : ∀ p, p < 8 → 0 ≤ h 22 (8 * (h 3 2 - 1).toNat + p) ∧ h 22 (8 * (h 3 2 - 1).toNat + p) ≤ 6 ∧ (0 < h 22 (8 * (h 3 2 - 1).toNat + p) → p < (h 1 3).toNat ∧ h 22 (8 * (h 3 2 - 1).toNat + p) - 1 ≤ h (23 + p) 3)) : Fn (d + 3) MX7_undo [mA 0] h (some (mI (h 3 2 - 1))) (UNi h 8) := by
  intro Q hq X hX hR
  have hn := hI.n
  have o3 : ∀ i, UNi h i 3 2 = h 3 2 - 1 := fun i => by rw [UNi_o (by decide) (by omega), up_same]
  have loop : ∀ i : Nat, i ≤ 8 → ∀ l2, VW X 27 [some (mA 0), some (mI i), l2] [] (UNi h i) := by
    refine loop_up 8 ?_ ?_
    · intro l2
      refine v_iload_n hX eX7_undo_27 rfl ?_
      refine v_bipush hX eX7_undo_28 (by decide) ?_
      refine v_icmp_ge hX eX7_undo_30 (tgt := 91) rfl ⟨by omega, by omega⟩ ⟨by omega, by omega⟩ (fun c30 => ?_) (fun c30 => False.elim ((by omega)))
      refine v_aload_n hX eX7_undo_91 rfl ?_
      refine v_getA hX eX7_undo_92 fi_X7_26 ⟨by decide, rfl⟩ rfl ?_
      refine v_getI hX eX7_undo_95 fi_X7_116 ⟨by decide, rfl⟩ ?_
      rw [o3]
      exact v_ireturn hX hR eX7_undo_98 rfl (hq)
    · intro i hi ih l2
      obtain ⟨r1, r2, r3⟩ := hr i hi
      have s := UNi_s (h := h) (p := i)
      have ei : ((h 3 2 - 1) * 8 + (i : Int)).toNat = 8 * (h 3 2 - 1).toNat + i := by omega
      have o22 : ∀ b, UNi h i 22 b = h 22 b := fun b => by rw [UNi_o (by decide) (by omega), up_ob (by decide)]
      have o21 : ∀ b, UNi h i 21 b = h 21 b := fun b => by rw [UNi_o (by decide) (by omega), up_ob (by decide)]
      have o1 : UNi h i 1 = h 1 := funext fun b => by rw [UNi_o (by decide) (by omega), up_ob (by decide)]
      have o10 : UNi h i 10 = h 10 := funext fun b => by rw [UNi_o (by decide) (by omega), up_ob (by decide)]
      by_cases hp0 : 0 < h 22 (8 * (h 3 2 - 1).toNat + i)
      · rw [if_pos hp0] at s
        have ui : RI (UNi h i) := by
          obtain ⟨a1, a2, a3, a4, a5⟩ := id hI
          refine ⟨by rw [o1]; exact a1, by rw [o1]; exact a2, fun p hp => ?_, fun q hq => ?_, by rw [o10]; exact a5⟩
          · have hp3 := a3 p hp
            obtain ⟨q1, q2, q3⟩ := hr p hp
            have oo : ∀ j, j ≠ 3 → UNi h i (23 + p) j = h (23 + p) j := fun j hj => by rw [UNi_o (by omega) (fun z => hj z.2.2), up_ob (by omega)]
            have or : UNi h i (31 + p) = h (31 + p) := funext fun b => by rw [UNi_o (by omega) (by omega), up_ob (by omega)]
            have sc : 0 ≤ UNi h i (23 + p) 3 ∧ UNi h i (23 + p) 3 ≤ 300 := by
              have s0 := hp3.2.2.1
              rw [UNi, if_neg (by omega), show 23 + p - 23 = p by omega, up_ob (by omega)]
              split
              · unfold pos1
                split
                · rename_i z; have := q3 z; omega
                · omega
              · omega
            unfold PUOK at hp3 ⊢
            rw [oo 1 (by decide), oo 2 (by decide), oo 4 (by decide), oo 5 (by decide), oo 6 (by decide), or]
            exact ⟨hp3.1, hp3.2.1, sc, hp3.2.2.2⟩
          · have := a4 q hq
            have oq : UNi h i (39 + q) = h (39 + q) := funext fun b => by rw [UNi_o (by omega) (by omega), up_ob (by omega)]
            unfold PROK at this ⊢
            rw [oq]
            exact this
        have osc : UNi h i (23 + i) 3 = h (23 + i) 3 := by rw [UNi_o (by omega) (by omega), up_ob (by omega)]
        refine v_iload_n hX eX7_undo_27 rfl ?_
        refine v_bipush hX eX7_undo_28 (by decide) ?_
        refine v_icmp_ge hX eX7_undo_30 (tgt := 91) rfl ⟨by omega, by omega⟩ ⟨by omega, by omega⟩ (fun c30 => False.elim ((by omega))) (fun c30 => ?_)
        refine v_aload_n hX eX7_undo_33 rfl ?_
        refine v_getA hX eX7_undo_34 fi_X7_26 ⟨by decide, rfl⟩ rfl ?_
        refine v_aload_n hX eX7_undo_37 rfl ?_
        refine v_getA hX eX7_undo_38 fi_X7_26 ⟨by decide, rfl⟩ rfl ?_
        refine v_getI hX eX7_undo_41 fi_X7_116 ⟨by decide, rfl⟩ ?_
        rw [o3]
        refine v_iload_n hX eX7_undo_44 rfl ?_
        refine v_fnV hX eX7_undo_45 lV_X7_205 ok_MX1_rankOf ⟨by decide, rfl⟩ rfl ⟨rfl, Nat.le_of_ble_eq_true rfl⟩ (Nat.le_of_ble_eq_true rfl) (c_X1_rankOf (by omega) ⟨by omega, by omega⟩) rfl ?_
        try simp only [Int.toNat_natCast, Int.toNat_zero, Int.reduceToNat]
        rw [ei, o22]
        refine v_istore_n hX eX7_undo_48 rfl rfl ?_
        refine v_iload_n hX eX7_undo_49 rfl ?_
        refine v_if_le hX eX7_undo_50 (tgt := 64) rfl ⟨by omega, by omega⟩ (fun c50 => False.elim ((by omega))) (fun c50 => ?_)
        refine v_aload_n hX eX7_undo_53 rfl ?_
        refine v_getA hX eX7_undo_54 fi_X7_10 ⟨by decide, rfl⟩ rfl ?_
        refine v_iload_n hX eX7_undo_57 rfl ?_
        refine v_iconst hX eX7_undo_58 ?_
        refine v_iload_n hX eX7_undo_59 rfl ?_
        refine v_isub hX eX7_undo_60 ?_
        refine v_fnV0 hX eX7_undo_61 lV_X7_202 ok_MX4_addScore ⟨by decide, rfl⟩ rfl ⟨rfl, Nat.le_of_ble_eq_true rfl⟩ (Nat.le_of_ble_eq_true rfl) (c_X4_addScore ui ⟨by omega, by rw [o1]; omega⟩) rfl ?_
        try simp only [Int.toNat_natCast, Int.toNat_zero, Int.reduceToNat]
        rw [osc]
        refine v_aload_n hX eX7_undo_64 rfl ?_
        refine v_getA hX eX7_undo_65 fi_X7_30 ⟨by decide, rfl⟩ rfl ?_
        refine v_iload_n hX eX7_undo_68 rfl ?_
        refine v_aload_n hX eX7_undo_69 rfl ?_
        refine v_getA hX eX7_undo_70 fi_X7_26 ⟨by decide, rfl⟩ rfl ?_
        refine v_aload_n hX eX7_undo_73 rfl ?_
        refine v_getA hX eX7_undo_74 fi_X7_26 ⟨by decide, rfl⟩ rfl ?_
        refine v_getI hX eX7_undo_77 fi_X7_116 ⟨by decide, rfl⟩ ?_
        rw [up_ob (by omega), o3]
        refine v_iload_n hX eX7_undo_80 rfl ?_
        refine v_fnV hX eX7_undo_81 lV_X7_209 ok_MX1_projectOf ⟨by decide, rfl⟩ rfl ⟨rfl, Nat.le_of_ble_eq_true rfl⟩ (Nat.le_of_ble_eq_true rfl) (c_X1_projectOf (by omega) ⟨by omega, by omega⟩) rfl ?_
        try simp only [Int.toNat_natCast, Int.toNat_zero, Int.reduceToNat]
        rw [ei, up_ob (by omega), o21]
        refine v_iast hX eX7_undo_84 (by first | exact ⟨by decide, rfl⟩ | exact AR_rk (by omega)) ⟨by omega, by omega⟩ ?_
        try simp only [Int.toNat_natCast, Int.toNat_zero, Int.reduceToNat]
        rw [s]
        refine v_iinc hX eX7_undo_85 rfl rfl rfl ?_
        refine v_goto hX eX7_undo_88 (tgt := 27) rfl ?_
        exact ih _
      · rw [if_neg hp0] at s
        refine v_iload_n hX eX7_undo_27 rfl ?_
        refine v_bipush hX eX7_undo_28 (by decide) ?_
        refine v_icmp_ge hX eX7_undo_30 (tgt := 91) rfl ⟨by omega, by omega⟩ ⟨by omega, by omega⟩ (fun c30 => False.elim ((by omega))) (fun c30 => ?_)
        refine v_aload_n hX eX7_undo_33 rfl ?_
        refine v_getA hX eX7_undo_34 fi_X7_26 ⟨by decide, rfl⟩ rfl ?_
        refine v_aload_n hX eX7_undo_37 rfl ?_
        refine v_getA hX eX7_undo_38 fi_X7_26 ⟨by decide, rfl⟩ rfl ?_
        refine v_getI hX eX7_undo_41 fi_X7_116 ⟨by decide, rfl⟩ ?_
        rw [o3]
        refine v_iload_n hX eX7_undo_44 rfl ?_
        refine v_fnV hX eX7_undo_45 lV_X7_205 ok_MX1_rankOf ⟨by decide, rfl⟩ rfl ⟨rfl, Nat.le_of_ble_eq_true rfl⟩ (Nat.le_of_ble_eq_true rfl) (c_X1_rankOf (by omega) ⟨by omega, by omega⟩) rfl ?_
        try simp only [Int.toNat_natCast, Int.toNat_zero, Int.reduceToNat]
        rw [ei, o22]
        refine v_istore_n hX eX7_undo_48 rfl rfl ?_
        refine v_iload_n hX eX7_undo_49 rfl ?_
        refine v_if_le hX eX7_undo_50 (tgt := 64) rfl ⟨by omega, by omega⟩ (fun c50 => ?_) (fun c50 => False.elim ((by omega)))
        refine v_aload_n hX eX7_undo_64 rfl ?_
        refine v_getA hX eX7_undo_65 fi_X7_30 ⟨by decide, rfl⟩ rfl ?_
        refine v_iload_n hX eX7_undo_68 rfl ?_
        refine v_aload_n hX eX7_undo_69 rfl ?_
        refine v_getA hX eX7_undo_70 fi_X7_26 ⟨by decide, rfl⟩ rfl ?_
        refine v_aload_n hX eX7_undo_73 rfl ?_
        refine v_getA hX eX7_undo_74 fi_X7_26 ⟨by decide, rfl⟩ rfl ?_
        refine v_getI hX eX7_undo_77 fi_X7_116 ⟨by decide, rfl⟩ ?_
        rw [o3]
        refine v_iload_n hX eX7_undo_80 rfl ?_
        refine v_fnV hX eX7_undo_81 lV_X7_209 ok_MX1_projectOf ⟨by decide, rfl⟩ rfl ⟨rfl, Nat.le_of_ble_eq_true rfl⟩ (Nat.le_of_ble_eq_true rfl) (c_X1_projectOf (by omega) ⟨by omega, by omega⟩) rfl ?_
        try simp only [Int.toNat_natCast, Int.toNat_zero, Int.reduceToNat]
        rw [ei, o21]
        refine v_iast hX eX7_undo_84 (by first | exact ⟨by decide, rfl⟩ | exact AR_rk (by omega)) ⟨by omega, by omega⟩ ?_
        try simp only [Int.toNat_natCast, Int.toNat_zero, Int.reduceToNat]
        rw [s]
        refine v_iinc hX eX7_undo_85 rfl rfl rfl ?_
        refine v_goto hX eX7_undo_88 (tgt := 27) rfl ?_
        exact ih _
  have l0 := loop 0 (by omega) none
  rw [show UNi h 0 = up h 3 2 (h 3 2 - 1) from by funext a b; rw [UNi, if_neg (by omega), if_neg (by omega)]] at l0
  show VW X 0 [some (mA 0), none, none] [] h
  refine v_aload_n hX eX7_undo_0 rfl ?_
  refine v_getA hX eX7_undo_1 fi_X7_26 ⟨by decide, rfl⟩ rfl ?_
  refine v_getI hX eX7_undo_4 fi_X7_116 ⟨by decide, rfl⟩ ?_
  refine v_if_gt hX eX7_undo_7 (tgt := 12) rfl ⟨by omega, by omega⟩ (fun c7 => ?_) (fun c7 => False.elim ((by omega)))
  refine v_aload_n hX eX7_undo_12 rfl ?_
  refine v_getA hX eX7_undo_13 fi_X7_26 ⟨by decide, rfl⟩ rfl ?_
  refine v_dup hX eX7_undo_16 rfl ?_
  refine v_getI hX eX7_undo_17 fi_X7_116 ⟨by decide, rfl⟩ ?_
  refine v_iconst hX eX7_undo_20 ?_
  refine v_isub hX eX7_undo_21 ?_
  refine v_putI hX eX7_undo_22 fi_X7_116 ⟨by decide, rfl⟩ ?_
  refine v_iconst hX eX7_undo_25 ?_
  refine v_istore_n hX eX7_undo_26 rfl rfl ?_
  exact l0
/-! wishes -/
def WI (h : Hp) (p : Nat) : Prop := h (23 + p) 2 = (cntF (fun j => decide (h (31 + p) j ≠ 6)) 5 : Nat)
def wlV (kind e : Int) : Int := if kind = 0 then i2b e else e
noncomputable def wlF (p : Nat) (kind step : Int) : Nat → Int → Hp → Hp
  | 0, _, g => g
  | k + 1, e, g => if pb (inQ g (wlV kind e) ∧ g (31 + p) (wlV kind e).toNat = 6) = true then wlF p kind step k (w32 (e + step)) (addW g p (wlV kind e).toNat) else g
theorem addW_RI {g : Hp} (hI : RI g) {p j : Nat} (hp : p < 8) (hw : WI g p) (hj : j < 5) (h6 : g (31 + p) j = 6) : RI (addW g p j) ∧ WI (addW g p j) p := by
  have hlt : cntF (fun j => decide (g (31 + p) j ≠ 6)) 5 < 5 := by
    refine Nat.lt_of_le_of_ne (cntF_le _ 5) (fun z => ?_)
    have : ∀ (f : Nat → Bool) n, cntF f n = n → ∀ i, i < n → f i = true := by
      intro f n
      induction n with
      | zero => intro _ i hi; omega
      | succ n ih =>
        intro h i hi
        rw [cntF] at h
        have := cntF_le f n
        have h2 : cntF f n = n ∧ f n = true := by
          cases hf : f n
          · rw [hf] at h; simp at h; omega
          · rw [hf] at h; simp at h; exact ⟨h, rfl⟩
        by_cases e : i = n
        · exact e ▸ h2.2
        · exact ih h2.1 i (by omega)
    have := this _ 5 z j hj
    simp [h6] at this
  have hw0 : 0 ≤ g (23 + p) 2 ∧ g (23 + p) 2 < 5 := by unfold WI at hw; omega
  have r31 : ∀ b, addW g p j (31 + p) b = if b = j then g (23 + p) 2 + 1 else g (31 + p) b := fun b => by
    unfold addW
    by_cases e : b = j
    · subst e; rw [up_same, if_pos rfl]
    · rw [up_ne (fun z => e z.2), up_ob (by omega), if_neg e]
  have r23 : addW g p j (23 + p) 2 = g (23 + p) 2 + 1 := by unfold addW; rw [up_ob (by omega), up_same]
  have oth : ∀ a b, ¬ (a = 23 + p ∧ b = 2) → a ≠ 31 + p → addW g p j a b = g a b := fun a b h1 h2 => by unfold addW; rw [up_ob h2, up_ne h1]
  obtain ⟨a1, a2, a3, a4, a5⟩ := id hI
  constructor
  · refine ⟨by rw [oth 1 3 (by omega) (by omega)]; exact a1, by rw [oth 1 4 (by omega) (by omega)]; exact a2, fun p' hp' => ?_, fun q hq => ?_, fun i hi => by rw [oth 10 i (by omega) (by omega)]; exact a5 i hi⟩
    · have h3 := a3 p' hp'
      unfold PUOK at h3 ⊢
      by_cases e : p' = p
      · subst e
        rw [oth _ 1 (by omega) (by omega), r23, oth _ 3 (by omega) (by omega), oth _ 4 (by omega) (by omega), oth _ 5 (by omega) (by omega), oth _ 6 (by omega) (by omega)]
        refine ⟨h3.1, by omega, h3.2.2.1, h3.2.2.2.1, h3.2.2.2.2.1, h3.2.2.2.2.2.1, fun b hb => ?_⟩
        rw [r31]
        split
        · omega
        · exact h3.2.2.2.2.2.2 b hb
      · have e1 : ∀ b, addW g p j (23 + p') b = g (23 + p') b := fun b => oth _ b (by omega) (by omega)
        have e2 : ∀ b, addW g p j (31 + p') b = g (31 + p') b := fun b => oth _ b (by omega) (by omega)
        simp only [e1, e2]
        exact h3
    · have := a4 q hq
      have e1 : ∀ b, addW g p j (39 + q) b = g (39 + q) b := fun b => oth _ b (by omega) (by omega)
      unfold PROK at this ⊢
      simp only [e1]
      exact this
  · unfold WI
    rw [r23, hw]
    have key : ∀ n, n ≤ 5 → cntF (fun b => decide (addW g p j (31 + p) b ≠ 6)) n = cntF (fun b => decide (g (31 + p) b ≠ 6)) n + (if j < n then 1 else 0) := by
      intro n
      induction n with
      | zero => intro _; simp [cntF]
      | succ n ih =>
        intro hn
        rw [cntF, cntF, ih (by omega), r31]
        by_cases e : n = j
        · subst e
          have hne : ¬ (g (23 + p) 2 + 1 = 6) := by omega
          rw [if_pos rfl]
          simp [hne, h6]
        · have : (j < n + 1) ↔ j < n := by omega
          rw [if_neg e]
          simp only [this]
          exact Nat.add_right_comm _ _ _
    rw [key 5 (by omega), if_pos hj]
    omega
theorem clr_at {h : Hp} {p a b : Nat} : clr h p a b = if a = 31 + p ∧ b < 5 then 6 else if a = 23 + p ∧ b = 2 then 0 else h a b := rfl
theorem clr_RI {h : Hp} (hI : RI h) {p : Nat} (hp : p < 8) : RI (clr h p) ∧ WI (clr h p) p := by
  obtain ⟨a1, a2, a3, a4, a5⟩ := id hI
  have oth : ∀ a b, ¬ (a = 23 + p ∧ b = 2) → a ≠ 31 + p → clr h p a b = h a b := fun a b h1 h2 => by rw [clr_at, if_neg (fun z => h2 z.1), if_neg h1]
  have r31 : ∀ b, b < 5 → clr h p (31 + p) b = 6 := fun b hb => by rw [clr_at, if_pos ⟨rfl, hb⟩]
  have r23 : clr h p (23 + p) 2 = 0 := by rw [clr_at, if_neg (by omega), if_pos ⟨rfl, rfl⟩]
  constructor
  · refine ⟨by rw [oth 1 3 (by omega) (by omega)]; exact a1, by rw [oth 1 4 (by omega) (by omega)]; exact a2, fun p' hp' => ?_, fun q hq => ?_, fun i hi => by rw [oth 10 i (by omega) (by omega)]; exact a5 i hi⟩
    · have h3 := a3 p' hp'
      unfold PUOK at h3 ⊢
      by_cases e : p' = p
      · subst e
        rw [oth _ 1 (by omega) (by omega), r23, oth _ 3 (by omega) (by omega), oth _ 4 (by omega) (by omega), oth _ 5 (by omega) (by omega), oth _ 6 (by omega) (by omega)]
        exact ⟨h3.1, by decide, h3.2.2.1, h3.2.2.2.1, h3.2.2.2.2.1, h3.2.2.2.2.2.1, fun b hb => by rw [r31 b hb]; decide⟩
      · have e1 : ∀ b, clr h p (23 + p') b = h (23 + p') b := fun b => oth _ b (by omega) (by omega)
        have e2 : ∀ b, clr h p (31 + p') b = h (31 + p') b := fun b => oth _ b (by omega) (by omega)
        simp only [e1, e2]
        exact h3
    · have := a4 q hq
      have e1 : ∀ b, clr h p (39 + q) b = h (39 + q) b := fun b => oth _ b (by omega) (by omega)
      unfold PROK at this ⊢
      simp only [e1]
      exact this
  · unfold WI
    rw [r23, cntF_none (fun i hi => by simp [r31 i hi])]
    rfl
set_option maxHeartbeats 2000000 in
set_option maxRecDepth 20000 in
theorem c_X7_wishes {d : Nat} {h : Hp} {p kind n f step : Int} (hI : RI h) (hp : inN h p) (hk : 0 ≤ kind ∧ kind ≤ 2) (hn : 0 ≤ n ∧ n ≤ 20 ∨ kind = 2 ∧ n ≤ 20 ∧ -2147483648 ≤ n) (hf : rng f) (hs : rng step) : Fn (d + 2) MX7_wishes [mA 0, mI p, mI kind, mI n, mI f, mI step] h (some (mI (wlF p.toNat kind step (if kind = 2 then 0 else n.toNat) f (clr h p.toNat) (23 + p.toNat) 2))) (wlF p.toNat kind step (if kind = 2 then 0 else n.toNat) f (clr h p.toNat)) := by
  intro Q hq X hX hR
  have hp8 := hp.lt hI
  have loop : ∀ (len : Int), 0 ≤ len ∧ len ≤ 20 → ∀ (k : Nat) (i e : Int) (g : Hp), 0 ≤ i → i + k = len → rng e → RI g → WI g p.toNat → inN g p → (∀ g', wlF p.toNat kind step k e g = g' → Q (some (mI (g' (23 + p.toNat) 2))) g') → ∀ l10, VW X 64 [some (mA 0), some (mI p), some (mI kind), some (mI n), some (mI f), some (mI step), some (mA (23 + p.toNat)), some (mI len), some (mI e), some (mI i), l10] [] g := by
    intro len hlen k
    induction k with
    | zero =>
      intro i e g h0 hi he gI gW gN hq l10
      refine v_iload hX eX7_wishes_64 rfl ?_
      refine v_iload hX eX7_wishes_66 rfl ?_
      refine v_icmp_ge hX eX7_wishes_68 (tgt := 123) rfl ⟨by omega, by omega⟩ ⟨by omega, by omega⟩ (fun c68 => ?_) (fun c68 => False.elim ((by omega)))
      refine v_aload hX eX7_wishes_123 rfl ?_
      refine v_getI hX eX7_wishes_125 fi_X7_67 (OB_pu (by omega)) ?_
      exact v_ireturn hX hR eX7_wishes_128 rfl (hq _ rfl)
    | succ k ih =>
      intro i e g h0 hi he gI gW gN hq l10
      have hq2 := gI.q
      have tail : rng (wlV kind e) → ∀ l10, VW X 83 [some (mA 0), some (mI p), some (mI kind), some (mI n), some (mI f), some (mI step), some (mA (23 + p.toNat)), some (mI len), some (mI e), some (mI i), l10] [mI (wlV kind e)] g := by
        intro hv l10
        by_cases hc : inQ g (wlV kind e) ∧ g (31 + p.toNat) (wlV kind e).toNat = 6
        · have hv5 := hc.1.lt gI
          have aw := addW_RI gI (p := p.toNat) (j := (wlV kind e).toNat) (by omega) gW (by omega) hc.2
          have en : addW g p.toNat (wlV kind e).toNat 1 = g 1 := funext fun b => by unfold addW; rw [up_ob (by omega), up_ob (by omega)]
          refine v_istore hX eX7_wishes_83 rfl rfl ?_
          refine v_aload_n hX eX7_wishes_85 rfl ?_
          refine v_getA hX eX7_wishes_86 fi_X7_10 ⟨by decide, rfl⟩ rfl ?_
          refine v_iload hX eX7_wishes_89 rfl ?_
          refine v_fnV hX eX7_wishes_91 lV_X7_59 ok_MX4_isProject ⟨by decide, rfl⟩ rfl ⟨rfl, Nat.le_of_ble_eq_true rfl⟩ (Nat.le_of_ble_eq_true rfl) (c_X4_isProject gI hv) rfl ?_
          try simp only [Int.toNat_natCast, Int.toNat_zero, Int.reduceToNat]
          refine v_ifB_eq hX eX7_wishes_94 (tgt := 123) rfl (fun c94 => False.elim (c94 hc.1)) (fun c94 => ?_)
          refine v_aload hX eX7_wishes_97 rfl ?_
          refine v_iload hX eX7_wishes_99 rfl ?_
          refine v_fnV hX eX7_wishes_101 lV_X7_62 ok_MX3_addWish (OB_pu (by omega)) rfl ⟨rfl, Nat.le_of_ble_eq_true rfl⟩ (Nat.le_of_ble_eq_true rfl) (c_X3_addWish gI (by omega) hv5 hc.2) rfl ?_
          try simp only [Int.toNat_natCast, Int.toNat_zero, Int.reduceToNat]
          refine v_if_ne hX eX7_wishes_104 (tgt := 110) rfl ⟨by decide, by decide⟩ (fun _ => ?_) (fun c => absurd c (by decide))
          refine v_iload hX eX7_wishes_110 rfl ?_
          refine v_iload hX eX7_wishes_112 rfl ?_
          refine v_iadd hX eX7_wishes_114 ?_
          refine v_wrap ?_
          refine v_istore hX eX7_wishes_115 rfl rfl ?_
          refine v_iinc hX eX7_wishes_117 rfl rfl rfl ?_
          refine v_goto hX eX7_wishes_120 (tgt := 64) rfl ?_
          exact ih (i + 1) _ _ (by omega) (by omega) (w32_rng _) aw.1 aw.2 ⟨gN.1, by rw [en]; exact gN.2⟩ (fun g' hg' => hq g' (by rw [wlF, if_pos (pb_iff.mpr hc)]; exact hg')) _
        · have fin := hq g (by rw [wlF, if_neg (fun z => hc (pb_iff.mp z))])
          refine v_istore hX eX7_wishes_83 rfl rfl ?_
          refine v_aload_n hX eX7_wishes_85 rfl ?_
          refine v_getA hX eX7_wishes_86 fi_X7_10 ⟨by decide, rfl⟩ rfl ?_
          refine v_iload hX eX7_wishes_89 rfl ?_
          refine v_fnV hX eX7_wishes_91 lV_X7_59 ok_MX4_isProject ⟨by decide, rfl⟩ rfl ⟨rfl, Nat.le_of_ble_eq_true rfl⟩ (Nat.le_of_ble_eq_true rfl) (c_X4_isProject gI hv) rfl ?_
          try simp only [Int.toNat_natCast, Int.toNat_zero, Int.reduceToNat]
          refine v_ifB_eq hX eX7_wishes_94 (tgt := 123) rfl (fun c94 => ?_) (fun c94 => ?_)
          · refine v_aload hX eX7_wishes_123 rfl ?_
            refine v_getI hX eX7_wishes_125 fi_X7_67 (OB_pu (by omega)) ?_
            exact v_ireturn hX hR eX7_wishes_128 rfl (fin)
          · refine v_aload hX eX7_wishes_97 rfl ?_
            refine v_iload hX eX7_wishes_99 rfl ?_
            refine v_fnV hX eX7_wishes_101 lV_X7_62 ok_MX3_addWish (OB_pu (by omega)) rfl ⟨rfl, Nat.le_of_ble_eq_true rfl⟩ (Nat.le_of_ble_eq_true rfl) (c_X3_addWish_F gI (by omega) hv (fun z => hc ⟨c94, z.2.2⟩)) rfl ?_
            try simp only [Int.toNat_natCast, Int.toNat_zero, Int.reduceToNat]
            refine v_if_ne hX eX7_wishes_104 (tgt := 110) rfl ⟨by decide, by decide⟩ (fun c => absurd rfl c) (fun _ => ?_)
            refine v_goto hX eX7_wishes_107 (tgt := 123) rfl ?_
            refine v_aload hX eX7_wishes_123 rfl ?_
            refine v_getI hX eX7_wishes_125 fi_X7_67 (OB_pu (by omega)) ?_
            exact v_ireturn hX hR eX7_wishes_128 rfl (fin)
      refine v_iload hX eX7_wishes_64 rfl ?_
      refine v_iload hX eX7_wishes_66 rfl ?_
      refine v_icmp_ge hX eX7_wishes_68 (tgt := 123) rfl ⟨by omega, by omega⟩ ⟨by omega, by omega⟩ (fun c68 => False.elim ((by omega))) (fun c68 => ?_)
      refine v_iload_n hX eX7_wishes_71 rfl ?_
      refine v_if_ne hX eX7_wishes_72 (tgt := 81) rfl ⟨by omega, by omega⟩ (fun c72 => ?_) (fun c72 => ?_)
      · have tl := tail (by unfold wlV; rw [if_neg c72]; exact he) l10
        rw [show wlV kind e = e from if_neg c72] at tl
        refine v_iload hX eX7_wishes_81 rfl ?_
        exact tl
      · refine v_iload hX eX7_wishes_75 rfl ?_
        refine v_i2b hX eX7_wishes_77 ?_
        refine v_goto hX eX7_wishes_78 (tgt := 83) rfl ?_
        have tl := tail (by unfold wlV; rw [if_pos c72]; exact i2b_rng _) l10
        rw [show wlV kind e = i2b e from if_pos c72] at tl
        exact tl
  have cl := clr_RI hI (p := p.toNat) (by omega)
  have cn : clr h p.toNat 1 = h 1 := funext fun b => by rw [clr_at, if_neg (by omega), if_neg (by omega)]
  have start : ∀ (len : Int), 0 ≤ len ∧ len ≤ 20 → len.toNat = (if kind = 2 then 0 else n.toNat) → ∀ l8 l9 l10, VW X 52 [some (mA 0), some (mI p), some (mI kind), some (mI n), some (mI f), some (mI step), some (mA (23 + p.toNat)), some (mI len), l8, l9, l10] [] h := by
    intro len hlen hl l8 l9 l10
    refine v_aload hX eX7_wishes_52 rfl ?_
    refine v_fnV0 hX eX7_wishes_54 lV_X7_71 ok_MX3_clearWishes (OB_pu (by omega)) rfl ⟨rfl, Nat.le_of_ble_eq_true rfl⟩ (Nat.le_of_ble_eq_true rfl) (c_X3_clearWishes (by omega)) rfl ?_
    try simp only [Int.toNat_natCast, Int.toNat_zero, Int.reduceToNat]
    refine v_iload hX eX7_wishes_57 rfl ?_
    refine v_istore hX eX7_wishes_59 rfl rfl ?_
    refine v_iconst hX eX7_wishes_61 ?_
    refine v_istore hX eX7_wishes_62 rfl rfl ?_
    exact loop len hlen len.toNat 0 f _ (by decide) (by omega) hf cl.1 cl.2 ⟨hp.1, by rw [cn]; exact hp.2⟩ (fun g' hg' => by rw [hl] at hg'; rw [hg'] at hq; exact hq) _
  show VW X 0 [some (mA 0), some (mI p), some (mI kind), some (mI n), some (mI f), some (mI step), none, none, none, none, none] [] h
  by_cases h2 : kind = 2
  · refine v_aload_n hX eX7_wishes_0 rfl ?_
    refine v_getA hX eX7_wishes_1 fi_X7_10 ⟨by decide, rfl⟩ rfl ?_
    refine v_iload_n hX eX7_wishes_4 rfl ?_
    refine v_fnV hX eX7_wishes_5 lV_X7_55 ok_MX4_pupilOf ⟨by decide, rfl⟩ rfl ⟨rfl, Nat.le_of_ble_eq_true rfl⟩ (Nat.le_of_ble_eq_true rfl) (c_X4_pupilOf hI hp) rfl ?_
    try simp only [Int.toNat_natCast, Int.toNat_zero, Int.reduceToNat]
    refine v_astore hX eX7_wishes_8 rfl rfl ?_
    refine v_aload hX eX7_wishes_10 rfl ?_
    refine v_ifnull hX eX7_wishes_12 ?_
    refine v_iload_n hX eX7_wishes_15 rfl ?_
    refine v_if_lt hX eX7_wishes_16 (tgt := 30) rfl ⟨by omega, by omega⟩ (fun c16 => False.elim ((by omega))) (fun c16 => ?_)
    refine v_iload_n hX eX7_wishes_19 rfl ?_
    refine v_iconst hX eX7_wishes_20 ?_
    refine v_icmp_gt hX eX7_wishes_21 (tgt := 30) rfl ⟨by omega, by omega⟩ ⟨by omega, by omega⟩ (fun c21 => False.elim ((by omega))) (fun c21 => ?_)
    refine v_iload_n hX eX7_wishes_24 rfl ?_
    refine v_bipush hX eX7_wishes_25 (by decide) ?_
    refine v_icmp_le hX eX7_wishes_27 (tgt := 32) rfl ⟨by omega, by omega⟩ ⟨by omega, by omega⟩ (fun c27 => ?_) (fun c27 => False.elim ((by omega)))
    refine v_iload_n hX eX7_wishes_32 rfl ?_
    refine v_iconst hX eX7_wishes_33 ?_
    refine v_icmp_ne hX eX7_wishes_34 (tgt := 41) rfl ⟨by omega, by omega⟩ ⟨by omega, by omega⟩ (fun c34 => False.elim ((by omega))) (fun c34 => ?_)
    refine v_iconst hX eX7_wishes_37 ?_
    refine v_goto hX eX7_wishes_38 (tgt := 42) rfl ?_
    refine v_istore hX eX7_wishes_42 rfl rfl ?_
    refine v_iload hX eX7_wishes_44 rfl ?_
    refine v_if_ge hX eX7_wishes_46 (tgt := 52) rfl ⟨by omega, by omega⟩ (fun c46 => ?_) (fun c46 => False.elim ((by omega)))
    exact start 0 (by decide) (by rw [if_pos h2]; rfl) _ _ _
  · refine v_aload_n hX eX7_wishes_0 rfl ?_
    refine v_getA hX eX7_wishes_1 fi_X7_10 ⟨by decide, rfl⟩ rfl ?_
    refine v_iload_n hX eX7_wishes_4 rfl ?_
    refine v_fnV hX eX7_wishes_5 lV_X7_55 ok_MX4_pupilOf ⟨by decide, rfl⟩ rfl ⟨rfl, Nat.le_of_ble_eq_true rfl⟩ (Nat.le_of_ble_eq_true rfl) (c_X4_pupilOf hI hp) rfl ?_
    try simp only [Int.toNat_natCast, Int.toNat_zero, Int.reduceToNat]
    refine v_astore hX eX7_wishes_8 rfl rfl ?_
    refine v_aload hX eX7_wishes_10 rfl ?_
    refine v_ifnull hX eX7_wishes_12 ?_
    refine v_iload_n hX eX7_wishes_15 rfl ?_
    refine v_if_lt hX eX7_wishes_16 (tgt := 30) rfl ⟨by omega, by omega⟩ (fun c16 => False.elim ((by omega))) (fun c16 => ?_)
    refine v_iload_n hX eX7_wishes_19 rfl ?_
    refine v_iconst hX eX7_wishes_20 ?_
    refine v_icmp_gt hX eX7_wishes_21 (tgt := 30) rfl ⟨by omega, by omega⟩ ⟨by omega, by omega⟩ (fun c21 => False.elim ((by omega))) (fun c21 => ?_)
    refine v_iload_n hX eX7_wishes_24 rfl ?_
    refine v_bipush hX eX7_wishes_25 (by decide) ?_
    refine v_icmp_le hX eX7_wishes_27 (tgt := 32) rfl ⟨by omega, by omega⟩ ⟨by omega, by omega⟩ (fun c27 => ?_) (fun c27 => False.elim ((by omega)))
    refine v_iload_n hX eX7_wishes_32 rfl ?_
    refine v_iconst hX eX7_wishes_33 ?_
    refine v_icmp_ne hX eX7_wishes_34 (tgt := 41) rfl ⟨by omega, by omega⟩ ⟨by omega, by omega⟩ (fun c34 => ?_) (fun c34 => False.elim ((by omega)))
    refine v_iload_n hX eX7_wishes_41 rfl ?_
    refine v_istore hX eX7_wishes_42 rfl rfl ?_
    refine v_iload hX eX7_wishes_44 rfl ?_
    refine v_if_ge hX eX7_wishes_46 (tgt := 52) rfl ⟨by omega, by omega⟩ (fun c46 => ?_) (fun c46 => False.elim ((by omega)))
    exact start n (by omega) (by rw [if_neg h2]) _ _ _
set_option maxHeartbeats 2000000 in
set_option maxRecDepth 20000 in
theorem c_X7_wishes_N {d : Nat} {h : Hp} {p kind n f step : Int} (hI : RI h) (hrp : rng p) (hrk : rng kind) (hrn : rng n) (bad : ¬ (inN h p ∧ (0 ≤ kind ∧ kind ≤ 2) ∧ n ≤ 20)) : Fn (d + 2) MX7_wishes [mA 0, mI p, mI kind, mI n, mI f, mI step] h (some (mI (-1))) h := by
  intro Q hq X hX hR
  show VW X 0 [some (mA 0), some (mI p), some (mI kind), some (mI n), some (mI f), some (mI step), none, none, none, none, none] [] h
  by_cases hp : inN h p
  · refine v_aload_n hX eX7_wishes_0 rfl ?_
    refine v_getA hX eX7_wishes_1 fi_X7_10 ⟨by decide, rfl⟩ rfl ?_
    refine v_iload_n hX eX7_wishes_4 rfl ?_
    refine v_fnV hX eX7_wishes_5 lV_X7_55 ok_MX4_pupilOf ⟨by decide, rfl⟩ rfl ⟨rfl, Nat.le_of_ble_eq_true rfl⟩ (Nat.le_of_ble_eq_true rfl) (c_X4_pupilOf hI hp) rfl ?_
    try simp only [Int.toNat_natCast, Int.toNat_zero, Int.reduceToNat]
    refine v_astore hX eX7_wishes_8 rfl rfl ?_
    refine v_aload hX eX7_wishes_10 rfl ?_
    refine v_ifnull hX eX7_wishes_12 ?_
    refine v_iload_n hX eX7_wishes_15 rfl ?_
    refine v_if_lt hX eX7_wishes_16 (tgt := 30) rfl ⟨by omega, by omega⟩ (fun c16 => ?_) (fun c16 => ?_)
    · refine v_iconst hX eX7_wishes_30 ?_
      exact v_ireturn hX hR eX7_wishes_31 rfl (hq)
    · refine v_iload_n hX eX7_wishes_19 rfl ?_
      refine v_iconst hX eX7_wishes_20 ?_
      refine v_icmp_gt hX eX7_wishes_21 (tgt := 30) rfl ⟨by omega, by omega⟩ ⟨by omega, by omega⟩ (fun c21 => ?_) (fun c21 => ?_)
      · refine v_iconst hX eX7_wishes_30 ?_
        exact v_ireturn hX hR eX7_wishes_31 rfl (hq)
      · refine v_iload_n hX eX7_wishes_24 rfl ?_
        refine v_bipush hX eX7_wishes_25 (by decide) ?_
        refine v_icmp_le hX eX7_wishes_27 (tgt := 32) rfl ⟨by omega, by omega⟩ ⟨by omega, by omega⟩ (fun c27 => False.elim ((bad ⟨hp, by omega, by omega⟩))) (fun c27 => ?_)
        refine v_iconst hX eX7_wishes_30 ?_
        exact v_ireturn hX hR eX7_wishes_31 rfl (hq)
  · refine v_aload_n hX eX7_wishes_0 rfl ?_
    refine v_getA hX eX7_wishes_1 fi_X7_10 ⟨by decide, rfl⟩ rfl ?_
    refine v_iload_n hX eX7_wishes_4 rfl ?_
    refine v_fnV hX eX7_wishes_5 lV_X7_55 ok_MX4_pupilOf ⟨by decide, rfl⟩ rfl ⟨rfl, Nat.le_of_ble_eq_true rfl⟩ (Nat.le_of_ble_eq_true rfl) (c_X4_pupilOf_N hI hrp hp) rfl ?_
    try simp only [Int.toNat_natCast, Int.toNat_zero, Int.reduceToNat]
    refine v_astoreN hX eX7_wishes_8 rfl rfl ?_
    refine v_aloadN hX eX7_wishes_10 rfl ?_
    refine v_ifnullN hX eX7_wishes_12 (tgt := 30) rfl ?_
    refine v_iconst hX eX7_wishes_30 ?_
    exact v_ireturn hX hR eX7_wishes_31 rfl (hq)
set_option maxHeartbeats 2000000 in
set_option maxRecDepth 20000 in
theorem c_X7_wishes_L {d : Nat} {h : Hp} {p kind n f step : Int} (hI : RI h) (hrn : rng n) (hp : inN h p) (hk : 0 ≤ kind ∧ kind ≤ 1) (hn : n < 0) : Fn (d + 2) MX7_wishes [mA 0, mI p, mI kind, mI n, mI f, mI step] h (some (mI (-2))) h := by
  intro Q hq X hX hR
  show VW X 0 [some (mA 0), some (mI p), some (mI kind), some (mI n), some (mI f), some (mI step), none, none, none, none, none] [] h
  refine v_aload_n hX eX7_wishes_0 rfl ?_
  refine v_getA hX eX7_wishes_1 fi_X7_10 ⟨by decide, rfl⟩ rfl ?_
  refine v_iload_n hX eX7_wishes_4 rfl ?_
  refine v_fnV hX eX7_wishes_5 lV_X7_55 ok_MX4_pupilOf ⟨by decide, rfl⟩ rfl ⟨rfl, Nat.le_of_ble_eq_true rfl⟩ (Nat.le_of_ble_eq_true rfl) (c_X4_pupilOf hI hp) rfl ?_
  try simp only [Int.toNat_natCast, Int.toNat_zero, Int.reduceToNat]
  refine v_astore hX eX7_wishes_8 rfl rfl ?_
  refine v_aload hX eX7_wishes_10 rfl ?_
  refine v_ifnull hX eX7_wishes_12 ?_
  refine v_iload_n hX eX7_wishes_15 rfl ?_
  refine v_if_lt hX eX7_wishes_16 (tgt := 30) rfl ⟨by omega, by omega⟩ (fun c16 => False.elim ((by omega))) (fun c16 => ?_)
  refine v_iload_n hX eX7_wishes_19 rfl ?_
  refine v_iconst hX eX7_wishes_20 ?_
  refine v_icmp_gt hX eX7_wishes_21 (tgt := 30) rfl ⟨by omega, by omega⟩ ⟨by omega, by omega⟩ (fun c21 => False.elim ((by omega))) (fun c21 => ?_)
  refine v_iload_n hX eX7_wishes_24 rfl ?_
  refine v_bipush hX eX7_wishes_25 (by decide) ?_
  refine v_icmp_le hX eX7_wishes_27 (tgt := 32) rfl ⟨by omega, by omega⟩ ⟨by omega, by omega⟩ (fun c27 => ?_) (fun c27 => False.elim ((by omega)))
  refine v_iload_n hX eX7_wishes_32 rfl ?_
  refine v_iconst hX eX7_wishes_33 ?_
  refine v_icmp_ne hX eX7_wishes_34 (tgt := 41) rfl ⟨by omega, by omega⟩ ⟨by omega, by omega⟩ (fun c34 => ?_) (fun c34 => False.elim ((by omega)))
  refine v_iload_n hX eX7_wishes_41 rfl ?_
  refine v_istore hX eX7_wishes_42 rfl rfl ?_
  refine v_iload hX eX7_wishes_44 rfl ?_
  refine v_if_ge hX eX7_wishes_46 (tgt := 52) rfl ⟨by omega, by omega⟩ (fun c46 => False.elim ((by omega))) (fun c46 => ?_)
  refine v_bipush hX eX7_wishes_49 (by decide) ?_
  exact v_ireturn hX hR eX7_wishes_51 rfl (hq)
