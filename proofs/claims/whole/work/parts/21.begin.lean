/-! Search: begin and its callers -/
def BG (h g : Hp) : Prop := (∀ a, a ≠ 2 → a ≠ 14 → a ≠ 15 → a ≠ 16 → g a = h a) ∧ ∀ j, j ≠ 8 → j ≠ 9 → j ≠ 10 → j ≠ 11 → g 2 j = h 2 j
def zN (h : Hp) (i : Nat) : Hp := fun a b => if a = 14 ∧ b < i then 0 else h a b
theorem zN_s {h : Hp} {i : Nat} : up (zN h i) 14 i 0 = zN h (i + 1) := by
  funext a b
  simp only [up, zN]
  by_cases ha : a = 14
  · subst ha
    by_cases hb : b = i
    · simp [hb]
    · have : (b < i + 1) ↔ b < i := by omega
      simp [hb, this]
  · simp [ha]
set_option maxHeartbeats 2000000 in
set_option maxRecDepth 20000 in
theorem c_X6_begin {d : Nat} {h : Hp} {b l lw : Int} (hE : ENV h) (hlw : lw = 0 ∨ lw = 1) (hb : 0 ≤ b ∧ b ≤ 4611686018427387904) (hl : 0 ≤ l ∧ l ≤ 4611686018427387904) :
    Fr (d + 11) MX6_begin [mA 2, mL b, mL l, mI lw] h (fun r g => r = none ∧ BG h g ∧ (∀ j, isP h j = false → g 15 j = h 15 j) ∧ SG g = ext h lw 8 (h 15) (b, l, 0, h 16)) := by
  intro Q hq X hX hR
  let h1 : Hp := up (up (up (up h 2 8 b) 2 9 l) 2 10 lw) 2 11 0
  have h1a : ∀ a, a ≠ 2 → h1 a = h a := fun a ha => by funext x; simp [h1, up, ha]
  have h1b : ∀ j, j ≠ 8 → j ≠ 9 → j ≠ 10 → j ≠ 11 → h1 2 j = h 2 j := fun j a1 a2 a3 a4 => by simp [h1, up, a1, a2, a3, a4]
  have z14 : ∀ i a, a ≠ 14 → zN h1 i a = h1 a := fun i a ha => by funext x; simp [zN, ha]
  have loop : ∀ i : Nat, i ≤ 5 → VW X 24 [some (mA 2), some (mL b), none, some (mL l), none, some (mI lw), some (mI i)] [] (zN h1 i) := by
    refine loop_up 5 ?_ ?_
    · have ee : EE h lw (zN h1 5) := ⟨by rw [z14 _ _ (by decide), h1b _ (by decide) (by decide) (by decide) (by decide)], by rw [z14 _ _ (by decide), h1b _ (by decide) (by decide) (by decide) (by decide)], by rw [z14 _ _ (by decide)]; simp [h1, up], by rw [z14 _ _ (by decide), h1a _ (by decide)], by rw [z14 _ _ (by decide), h1a _ (by decide)], by rw [z14 _ _ (by decide), h1a _ (by decide)], by rw [z14 _ _ (by decide), h1a _ (by decide)], by rw [z14 _ _ (by decide), h1a _ (by decide)]⟩
      have e15 : zN h1 5 15 = h 15 := by rw [z14 _ _ (by decide), h1a _ (by decide)]
      have sg : SG (zN h1 5) = (b, l, 0, h 16) := by
        unfold SG
        rw [z14 _ 2 (by decide), z14 _ 16 (by decide), h1a 16 (by decide)]
        simp [h1, up]
      have call := c_X6_extend (lw := lw) hE hlw 8 (Nat.le_refl 8) d (zN h1 5) ee (by rw [sg]; exact ⟨hb, hl⟩) (fun q hq5 => by
        show zN h1 5 14 q = ((gU h (zN h1 5 15) 0 q : Nat) : Int)
        rw [gU, bs, zN, if_pos ⟨rfl, hq5⟩]
        rfl)
      have e1 : cU h (zN h1 5 15) (8 - 8) = 28 := rfl
      have e2 : lU h (zN h1 5 15) (8 - 8) = 0 := rfl
      rw [e1, e2] at call
      refine v_iload hX eX6_begin_24 rfl ?_
      refine v_aload_n hX eX6_begin_26 rfl ?_
      refine v_getA hX eX6_begin_27 fi_X6_29 ⟨by decide, rfl⟩ rfl ?_
      refine v_alen hX eX6_begin_30 (by first | exact ⟨by decide, rfl⟩ | exact AR_rk (by omega)) ?_
      refine v_icmp_ge hX eX6_begin_31 (tgt := 48) rfl ⟨by omega, by omega⟩ ⟨by omega, by omega⟩ (fun c31 => ?_) (fun c31 => False.elim ((by omega)))
      refine v_aload_n hX eX6_begin_48 rfl ?_
      refine v_iconst hX eX6_begin_49 ?_
      refine v_ldc2 (z := 28) hX eX6_begin_50 k_X6_81 (by decide) ?_
      refine v_lconst (z := 0) hX eX6_begin_53 (by decide) ?_
      refine v_frS hX eX6_begin_54 lS_X6_109 ok_MX6_extend ⟨rfl, Nat.le_of_ble_eq_true rfl⟩ (Nat.le_of_ble_eq_true rfl) (call) rfl ?_
      rintro r g ⟨rfl, m1, m2, m3⟩
      exact v_return hX hR eX6_begin_57 rfl (hq _ _ ⟨rfl, ⟨fun a a1 a2 a3 a4 => by rw [m1.1 a a1 a3 a4, z14 _ a a2, h1a a a1], fun j j1 j2 j3 j4 => by rw [m1.2 j j1 j2 j4, z14 _ 2 (by decide), h1b j j1 j2 j3 j4]⟩, fun j hj => by rw [m2 j (Or.inr hj), e15], by rw [m3, sg, e15]⟩)
    · intro i hi ih
      refine v_iload hX eX6_begin_24 rfl ?_
      refine v_aload_n hX eX6_begin_26 rfl ?_
      refine v_getA hX eX6_begin_27 fi_X6_29 ⟨by decide, rfl⟩ rfl ?_
      refine v_alen hX eX6_begin_30 (by first | exact ⟨by decide, rfl⟩ | exact AR_rk (by omega)) ?_
      refine v_icmp_ge hX eX6_begin_31 (tgt := 48) rfl ⟨by omega, by omega⟩ ⟨by omega, by omega⟩ (fun c31 => False.elim ((by omega))) (fun c31 => ?_)
      refine v_aload_n hX eX6_begin_34 rfl ?_
      refine v_getA hX eX6_begin_35 fi_X6_29 ⟨by decide, rfl⟩ rfl ?_
      refine v_iload hX eX6_begin_38 rfl ?_
      refine v_iconst hX eX6_begin_40 ?_
      refine v_iast hX eX6_begin_41 (by first | exact ⟨by decide, rfl⟩ | exact AR_rk (by omega)) ⟨by omega, by omega⟩ ?_
      try simp only [Int.toNat_natCast, Int.toNat_zero, Int.reduceToNat]
      rw [zN_s]
      refine v_iinc hX eX6_begin_42 rfl rfl rfl ?_
      refine v_goto hX eX6_begin_45 (tgt := 24) rfl ?_
      exact ih
  have l0 := loop 0 (by omega)
  rw [show zN h1 0 = h1 from by funext a x; simp [zN]] at l0
  show VW X 0 [some (mA 2), some (mL b), none, some (mL l), none, some (mI lw), none] [] h
  refine v_aload_n hX eX6_begin_0 rfl ?_
  refine v_lload_n hX eX6_begin_1 rfl ?_
  refine v_putL hX eX6_begin_2 fi_X6_98 ⟨by decide, rfl⟩ ?_
  refine v_aload_n hX eX6_begin_5 rfl ?_
  refine v_lload_n hX eX6_begin_6 rfl ?_
  refine v_putL hX eX6_begin_7 fi_X6_102 ⟨by decide, rfl⟩ ?_
  refine v_aload_n hX eX6_begin_10 rfl ?_
  refine v_iload hX eX6_begin_11 rfl ?_
  refine v_putZ hX eX6_begin_13 fi_X6_105 ⟨by decide, rfl⟩ (by omega) ?_
  refine v_aload_n hX eX6_begin_16 rfl ?_
  refine v_iconst hX eX6_begin_17 ?_
  refine v_putI hX eX6_begin_18 fi_X6_78 ⟨by decide, rfl⟩ ?_
  refine v_iconst hX eX6_begin_21 ?_
  refine v_istore hX eX6_begin_22 rfl rfl ?_
  exact l0
abbrev ABV : Int := 4611686018427387904
set_option maxHeartbeats 2000000 in
set_option maxRecDepth 20000 in
theorem c_X6_findBest {d : Nat} {h : Hp} (hE : ENV h) :
    Fr (d + 12) MX6_findBest [mA 2] h (fun r g => r = some (mI (b01 (0 < (ext h 1 8 (h 15) (ABV, ABV, 0, h 16)).2.2.1))) ∧ BG h g ∧ (∀ j, isP h j = false → g 15 j = h 15 j) ∧ SG g = ext h 1 8 (h 15) (ABV, ABV, 0, h 16)) := by
  intro Q hq X hX hR
  have hits : 0 ≤ (ext h 1 8 (h 15) (ABV, ABV, 0, h 16)).2.2.1 ∧ (ext h 1 8 (h 15) (ABV, ABV, 0, h 16)).2.2.1 < 2000000 := ext_hits hE rfl
  show VW X 0 [some (mA 2)] [] h
  refine v_aload_n hX eX6_findBest_0 rfl ?_
  refine v_ldc2 (z := 4611686018427387904) hX eX6_findBest_1 k_X6_72 (by decide) ?_
  refine v_ldc2 (z := 4611686018427387904) hX eX6_findBest_4 k_X6_72 (by decide) ?_
  refine v_iconst hX eX6_findBest_7 ?_
  refine v_frV hX eX6_findBest_8 lV_X6_74 ok_MX6_begin ⟨by decide, rfl⟩ rfl ⟨rfl, Nat.le_of_ble_eq_true rfl⟩ (Nat.le_of_ble_eq_true rfl) (c_X6_begin hE (Or.inr rfl) (by decide) (by decide)) rfl ?_
  rintro r g ⟨rfl, m1, m2, m3⟩
  have e11 : g 2 11 = (ext h 1 8 (h 15) (ABV, ABV, 0, h 16)).2.2.1 := by rw [← m3]; rfl
  refine v_aload_n hX eX6_findBest_11 rfl ?_
  refine v_getI hX eX6_findBest_12 fi_X6_78 ⟨by decide, rfl⟩ ?_
  rw [e11]
  refine v_if_le hX eX6_findBest_15 (tgt := 22) rfl ⟨by omega, by omega⟩ (fun c15 => ?_) (fun c15 => ?_)
  · refine v_iconst hX eX6_findBest_22 ?_
    exact v_zreturn hX hR eX6_findBest_23 rfl (by omega) (hq _ _ ⟨by rw [b01_f (by omega)], m1, m2, m3⟩)
  · refine v_iconst hX eX6_findBest_18 ?_
    refine v_goto hX eX6_findBest_19 (tgt := 23) rfl ?_
    exact v_zreturn hX hR eX6_findBest_23 rfl (by omega) (hq _ _ ⟨by rw [b01_t (by omega)], m1, m2, m3⟩)
set_option maxHeartbeats 2000000 in
set_option maxRecDepth 20000 in
theorem c_X6_countRight {d : Nat} {h : Hp} (hE : ENV h) :
    Fr (d + 12) MX6_countRight [mA 2] h (fun r g => r = some (mI (ext h 0 8 (h 15) (ABV, ABV, 0, h 16)).2.2.1) ∧ BG h g ∧ (∀ j, isP h j = false → g 15 j = h 15 j) ∧ SG g = ext h 0 8 (h 15) (ABV, ABV, 0, h 16)) := by
  intro Q hq X hX hR
  show VW X 0 [some (mA 2)] [] h
  refine v_aload_n hX eX6_countRight_0 rfl ?_
  refine v_ldc2 (z := 4611686018427387904) hX eX6_countRight_1 k_X6_72 (by decide) ?_
  refine v_ldc2 (z := 4611686018427387904) hX eX6_countRight_4 k_X6_72 (by decide) ?_
  refine v_iconst hX eX6_countRight_7 ?_
  refine v_frV hX eX6_countRight_8 lV_X6_74 ok_MX6_begin ⟨by decide, rfl⟩ rfl ⟨rfl, Nat.le_of_ble_eq_true rfl⟩ (Nat.le_of_ble_eq_true rfl) (c_X6_begin hE (Or.inl rfl) (by decide) (by decide)) rfl ?_
  rintro r g ⟨rfl, m1, m2, m3⟩
  have e11 : g 2 11 = (ext h 0 8 (h 15) (ABV, ABV, 0, h 16)).2.2.1 := by rw [← m3]; rfl
  refine v_aload_n hX eX6_countRight_11 rfl ?_
  refine v_getI hX eX6_countRight_12 fi_X6_78 ⟨by decide, rfl⟩ ?_
  rw [e11]
  exact v_ireturn hX hR eX6_countRight_15 rfl (hq _ _ ⟨rfl, m1, m2, m3⟩)
/-! countBetter -/
def fbF (e : Hp) (t : Nat → Int) (p : Nat) : Nat → Bool := fun j => decide (t p ≠ -1) && (decide (t j = t p) && (isP e j && (e 13 p).toNat.testBit j))
def prs2 (e : Hp) (t : Nat → Int) : Nat → Int
  | 0 => 0
  | p + 1 => prs2 e t p + if isP e p = true then (cntF (fbF e t p) p : Int) else 0
def cU2 (e : Hp) (t : Nat → Int) (p : Nat) : Int := 28 + cA e t p - prs2 e t p
theorem prs2_rng {e : Hp} (t : Nat → Int) : ∀ p : Nat, p ≤ 8 → 0 ≤ prs2 e t p ∧ 2 * prs2 e t p ≤ (p * (p - 1) : Nat)
  | 0, _ => by simp [prs2]
  | p + 1, hp => by
    have ih := prs2_rng (e := e) t p (by omega)
    have hb := cntF_le (fbF e t p) p
    have e1 : (p + 1) * (p + 1 - 1) = p * (p - 1) + 2 * p := by
      have : ∀ p, p < 8 → (p + 1) * (p + 1 - 1) = p * (p - 1) + 2 * p := by decide
      exact this p (by omega)
    rw [prs2, e1]
    split <;> omega
theorem cU2_rng {e : Hp} (hE : ENV e) (t : Nat → Int) {p : Nat} (hp : p ≤ 8) : 0 ≤ cU2 e t p ∧ cU2 e t p ≤ 40000000000000 := by
  have h1 := cA_rng hE t p hp
  have h2 := prs2_rng (e := e) t p hp
  have h3 : p * (p - 1) ≤ 56 := by
    have : ∀ p, p ≤ 8 → p * (p - 1) ≤ 56 := by decide
    exact this p hp
  unfold cU2
  omega
set_option maxHeartbeats 2000000 in
set_option maxRecDepth 20000 in
theorem c_X6_friendsBefore {d : Nat} {h : Hp} {p : Nat} (hp : p < 8) (hL : PLI h) (hE : ENV h) : Fn (d + 1) MX6_friendsBefore [mA 2, mI p, mA 4] h (some (mI (cntF (fbF h (h 4) p) p : Nat))) h := by
  intro Q hq X hX hR
  have lp := hL p hp
  have h13 := hE.2.2.2.1 p hp
  have loop : ∀ i : Nat, i ≤ p → ∀ l5, VW X 5 [some (mA 2), some (mI p), some (mA 4), some (mI (cntF (fbF h (h 4) p) i : Nat)), some (mI i), l5] [] h := by
    refine loop_up p ?_ ?_
    · intro l5
      refine v_iload hX eX6_friendsBefore_5 rfl ?_
      refine v_iload_n hX eX6_friendsBefore_7 rfl ?_
      refine v_icmp_ge hX eX6_friendsBefore_8 (tgt := 72) rfl ⟨by omega, by omega⟩ ⟨by omega, by omega⟩ (fun c8 => ?_) (fun c8 => False.elim ((by omega)))
      refine v_iload_n hX eX6_friendsBefore_72 rfl ?_
      exact v_ireturn hX hR eX6_friendsBefore_73 rfl (hq)
    · intro i hi ih l5
      have li := hL i (by omega)
      have no : fbF h (h 4) p i = false → ∀ l5, VW X 66 [some (mA 2), some (mI p), some (mA 4), some (mI (cntF (fbF h (h 4) p) i : Nat)), some (mI i), l5] [] h := by
        intro hf l5
        have ih2 := ih l5
        rw [cntF, hf] at ih2
        refine v_iinc hX eX6_friendsBefore_66 rfl rfl rfl ?_
        exact v_goto hX eX6_friendsBefore_69 (tgt := 5) rfl ih2
      have yes : fbF h (h 4) p i = true → ∀ l5, VW X 63 [some (mA 2), some (mI p), some (mA 4), some (mI (cntF (fbF h (h 4) p) i : Nat)), some (mI i), l5] [] h := by
        intro hf l5
        have ih2 := ih l5
        rw [cntF, if_pos hf] at ih2
        refine v_iinc hX eX6_friendsBefore_63 rfl rfl rfl ?_
        refine v_iinc hX eX6_friendsBefore_66 rfl rfl rfl ?_
        exact v_goto hX eX6_friendsBefore_69 (tgt := 5) rfl ih2
      refine v_iload hX eX6_friendsBefore_5 rfl ?_
      refine v_iload_n hX eX6_friendsBefore_7 rfl ?_
      refine v_icmp_ge hX eX6_friendsBefore_8 (tgt := 72) rfl ⟨by omega, by omega⟩ ⟨by omega, by omega⟩ (fun c8 => False.elim ((by omega))) (fun c8 => ?_)
      refine v_aload_n hX eX6_friendsBefore_11 rfl ?_
      refine v_iload_n hX eX6_friendsBefore_12 rfl ?_
      refine v_iald hX eX6_friendsBefore_13 (by first | exact ⟨by decide, rfl⟩ | exact AR_rk (by omega)) ⟨by omega, by omega⟩ ?_
      try simp only [Int.toNat_natCast, Int.toNat_zero, Int.reduceToNat]
      refine v_iconst hX eX6_friendsBefore_14 ?_
      refine v_icmp_eq hX eX6_friendsBefore_15 (tgt := 32) rfl ⟨by omega, by omega⟩ ⟨by omega, by omega⟩ (fun c15 => ?_) (fun c15 => ?_)
      · refine v_iconst hX eX6_friendsBefore_32 ?_
        refine v_istore hX eX6_friendsBefore_33 rfl rfl ?_
        refine v_iload hX eX6_friendsBefore_35 rfl ?_
        refine v_if_eq hX eX6_friendsBefore_37 (tgt := 66) rfl ⟨by omega, by omega⟩ (fun c37 => ?_) (fun c37 => False.elim ((by omega)))
        exact no (by simp [fbF, c15]) _
      · refine v_aload_n hX eX6_friendsBefore_18 rfl ?_
        refine v_iload hX eX6_friendsBefore_19 rfl ?_
        refine v_iald hX eX6_friendsBefore_21 (by first | exact ⟨by decide, rfl⟩ | exact AR_rk (by omega)) ⟨by omega, by omega⟩ ?_
        try simp only [Int.toNat_natCast, Int.toNat_zero, Int.reduceToNat]
        refine v_aload_n hX eX6_friendsBefore_22 rfl ?_
        refine v_iload_n hX eX6_friendsBefore_23 rfl ?_
        refine v_iald hX eX6_friendsBefore_24 (by first | exact ⟨by decide, rfl⟩ | exact AR_rk (by omega)) ⟨by omega, by omega⟩ ?_
        try simp only [Int.toNat_natCast, Int.toNat_zero, Int.reduceToNat]
        refine v_icmp_ne hX eX6_friendsBefore_25 (tgt := 32) rfl ⟨by omega, by omega⟩ ⟨by omega, by omega⟩ (fun c25 => ?_) (fun c25 => ?_)
        · refine v_iconst hX eX6_friendsBefore_32 ?_
          refine v_istore hX eX6_friendsBefore_33 rfl rfl ?_
          refine v_iload hX eX6_friendsBefore_35 rfl ?_
          refine v_if_eq hX eX6_friendsBefore_37 (tgt := 66) rfl ⟨by omega, by omega⟩ (fun c37 => ?_) (fun c37 => False.elim ((by omega)))
          exact no (by simp [fbF, c25]) _
        · refine v_iconst hX eX6_friendsBefore_28 ?_
          refine v_goto hX eX6_friendsBefore_29 (tgt := 33) rfl ?_
          refine v_istore hX eX6_friendsBefore_33 rfl rfl ?_
          refine v_iload hX eX6_friendsBefore_35 rfl ?_
          refine v_if_eq hX eX6_friendsBefore_37 (tgt := 66) rfl ⟨by omega, by omega⟩ (fun c37 => False.elim ((by omega))) (fun c37 => ?_)
          refine v_aload_n hX eX6_friendsBefore_40 rfl ?_
          refine v_iload hX eX6_friendsBefore_41 rfl ?_
          refine v_fnV hX eX6_friendsBefore_43 lV_X6_83 ok_MX6_isPresent ⟨by decide, rfl⟩ rfl ⟨rfl, Nat.le_of_ble_eq_true rfl⟩ (Nat.le_of_ble_eq_true rfl) (c_X6_isPresent (by omega) hE.1) rfl ?_
          try simp only [Int.toNat_natCast, Int.toNat_zero, Int.reduceToNat]
          refine v_ifB_eq hX eX6_friendsBefore_46 (tgt := 66) rfl (fun c46 => ?_) (fun c46 => ?_)
          · exact no (by simp [fbF]; intros; simp_all) _
          · refine v_aload_n hX eX6_friendsBefore_49 rfl ?_
            refine v_getA hX eX6_friendsBefore_50 fi_X6_25 ⟨by decide, rfl⟩ rfl ?_
            refine v_iload_n hX eX6_friendsBefore_53 rfl ?_
            refine v_iald hX eX6_friendsBefore_54 (by first | exact ⟨by decide, rfl⟩ | exact AR_rk (by omega)) ⟨by omega, by omega⟩ ?_
            try simp only [Int.toNat_natCast, Int.toNat_zero, Int.reduceToNat]
            refine v_iload hX eX6_friendsBefore_55 rfl ?_
            refine v_ishr hX eX6_friendsBefore_57 ?_
            refine v_iconst hX eX6_friendsBefore_58 ?_
            refine v_iand hX eX6_friendsBefore_59 ?_
            rw [bitZ h13 (by omega)]
            rw [Int.toNat_natCast]
            refine v_ifB_eq hX eX6_friendsBefore_60 (tgt := 66) rfl (fun c60 => ?_) (fun c60 => ?_)
            · exact no (by simp [fbF]; intros; simp_all) _
            · exact yes (by simp [fbF]; exact ⟨c15, c25, c46, c60⟩) _
  show VW X 0 [some (mA 2), some (mI p), some (mA 4), none, none, none] [] h
  refine v_iconst hX eX6_friendsBefore_0 ?_
  refine v_istore_n hX eX6_friendsBefore_1 rfl rfl ?_
  refine v_iconst hX eX6_friendsBefore_2 ?_
  refine v_istore hX eX6_friendsBefore_3 rfl rfl ?_
  exact loop 0 (by omega) _
set_option maxHeartbeats 2000000 in
set_option maxRecDepth 20000 in
theorem c_X6_countBetter {d : Nat} {h : Hp} (hE : ENV h) (hL : PLI h) :
    Fr (d + 12) MX6_countBetter [mA 2, mA 4] h (fun r g => r = some (mI (ext h 0 8 (h 15) (cU2 h (h 4) 8, lU h (h 4) 8, 0, h 16)).2.2.1) ∧ BG h g ∧ (∀ j, isP h j = false → g 15 j = h 15 j) ∧ SG g = ext h 0 8 (h 15) (cU2 h (h 4) 8, lU h (h 4) 8, 0, h 16)) := by
  intro Q hq X hX hR
  have c8 := cU2_rng hE (h 4) (p := 8) (by omega)
  have l8 := lU_rng hE (h 4) 8 (by omega)
  have loop : ∀ i : Nat, i ≤ 8 → VW X 10 [some (mA 2), some (mA 4), some (mL (cU2 h (h 4) i)), none, some (mL (lU h (h 4) i)), none, some (mI i)] [] h := by
    refine loop_up 8 ?_ ?_
    · refine v_iload hX eX6_countBetter_10 rfl ?_
      refine v_bipush hX eX6_countBetter_12 (by decide) ?_
      refine v_icmp_ge hX eX6_countBetter_14 (tgt := 82) rfl ⟨by omega, by omega⟩ ⟨by omega, by omega⟩ (fun c14 => ?_) (fun c14 => False.elim ((by omega)))
      refine v_aload_n hX eX6_countBetter_82 rfl ?_
      refine v_lload_n hX eX6_countBetter_83 rfl ?_
      refine v_lload hX eX6_countBetter_84 rfl ?_
      refine v_iconst hX eX6_countBetter_86 ?_
      refine v_frV hX eX6_countBetter_87 lV_X6_74 ok_MX6_begin ⟨by decide, rfl⟩ rfl ⟨rfl, Nat.le_of_ble_eq_true rfl⟩ (Nat.le_of_ble_eq_true rfl) (c_X6_begin hE (Or.inl rfl) (by omega) (by omega)) rfl ?_
      rintro r g ⟨rfl, m1, m2, m3⟩
      have e11 : g 2 11 = (ext h 0 8 (h 15) (cU2 h (h 4) 8, lU h (h 4) 8, 0, h 16)).2.2.1 := by rw [← m3]; rfl
      refine v_aload_n hX eX6_countBetter_90 rfl ?_
      refine v_getI hX eX6_countBetter_91 fi_X6_78 ⟨by decide, rfl⟩ ?_
      rw [e11]
      exact v_ireturn hX hR eX6_countBetter_94 rfl (hq _ _ ⟨rfl, m1, m2, m3⟩)
    · intro i hi ih
      have li := hL i hi
      have cf := cntF_le (fbF h (h 4) i) i
      refine v_iload hX eX6_countBetter_10 rfl ?_
      refine v_bipush hX eX6_countBetter_12 (by decide) ?_
      refine v_icmp_ge hX eX6_countBetter_14 (tgt := 82) rfl ⟨by omega, by omega⟩ ⟨by omega, by omega⟩ (fun c14 => False.elim ((by omega))) (fun c14 => ?_)
      refine v_iload hX eX6_countBetter_17 rfl ?_
      refine v_aload_n hX eX6_countBetter_19 rfl ?_
      refine v_alen hX eX6_countBetter_20 (by first | exact ⟨by decide, rfl⟩ | exact AR_rk (by omega)) ?_
      refine v_icmp_ge hX eX6_countBetter_21 (tgt := 82) rfl ⟨by omega, by omega⟩ ⟨by omega, by omega⟩ (fun c21 => False.elim ((by omega))) (fun c21 => ?_)
      refine v_aload_n hX eX6_countBetter_24 rfl ?_
      refine v_iload hX eX6_countBetter_25 rfl ?_
      refine v_fnV hX eX6_countBetter_27 lV_X6_83 ok_MX6_isPresent ⟨by decide, rfl⟩ rfl ⟨rfl, Nat.le_of_ble_eq_true rfl⟩ (Nat.le_of_ble_eq_true rfl) (c_X6_isPresent (by omega) hE.1) rfl ?_
      try simp only [Int.toNat_natCast, Int.toNat_zero, Int.reduceToNat]
      refine v_ifB_eq hX eX6_countBetter_30 (tgt := 76) rfl (fun c30 => ?_) (fun c30 => ?_)
      · rw [show cU2 h (h 4) (i + 1) = cU2 h (h 4) i from by rw [cU2, cA, prs2, if_neg c30, if_neg c30, cU2]; omega, show lU h (h 4) (i + 1) = lU h (h 4) i from by rw [lU, if_neg c30]; omega] at ih
        refine v_iinc hX eX6_countBetter_76 rfl rfl rfl ?_
        exact v_goto hX eX6_countBetter_79 (tgt := 10) rfl ih
      · refine v_lload_n hX eX6_countBetter_33 rfl ?_
        refine v_aload_n hX eX6_countBetter_34 rfl ?_
        refine v_getA hX eX6_countBetter_35 fi_X6_21 ⟨by decide, rfl⟩ rfl ?_
        refine v_iload hX eX6_countBetter_38 rfl ?_
        refine v_aload_n hX eX6_countBetter_40 rfl ?_
        refine v_iload hX eX6_countBetter_41 rfl ?_
        refine v_iald hX eX6_countBetter_43 (by first | exact ⟨by decide, rfl⟩ | exact AR_rk (by omega)) ⟨by omega, by omega⟩ ?_
        try simp only [Int.toNat_natCast, Int.toNat_zero, Int.reduceToNat]
        refine v_fnV hX eX6_countBetter_44 lV_X6_87 ok_MX5_costOf ⟨by decide, rfl⟩ rfl ⟨rfl, Nat.le_of_ble_eq_true rfl⟩ (Nat.le_of_ble_eq_true rfl) (c_X5_costOf (by omega) ⟨by omega, by omega⟩) rfl ?_
        try simp only [Int.toNat_natCast, Int.toNat_zero, Int.reduceToNat]
        refine v_aload_n hX eX6_countBetter_47 rfl ?_
        refine v_iload hX eX6_countBetter_48 rfl ?_
        refine v_aload_n hX eX6_countBetter_50 rfl ?_
        refine v_fnV hX eX6_countBetter_51 lV_X6_91 ok_MX6_friendsBefore ⟨by decide, rfl⟩ rfl ⟨rfl, Nat.le_of_ble_eq_true rfl⟩ (Nat.le_of_ble_eq_true rfl) (c_X6_friendsBefore (by omega) hL hE) rfl ?_
        try simp only [Int.toNat_natCast, Int.toNat_zero, Int.reduceToNat]
        refine v_i2l hX eX6_countBetter_54 ⟨by omega, by omega⟩ ?_
        refine v_lsub hX eX6_countBetter_55 ?_
        refine v_ladd hX eX6_countBetter_56 ?_
        refine v_lstore_n hX eX6_countBetter_57 rfl rfl ?_
        refine v_lload hX eX6_countBetter_58 rfl ?_
        refine v_aload_n hX eX6_countBetter_60 rfl ?_
        refine v_getA hX eX6_countBetter_61 fi_X6_21 ⟨by decide, rfl⟩ rfl ?_
        refine v_iload hX eX6_countBetter_64 rfl ?_
        refine v_aload_n hX eX6_countBetter_66 rfl ?_
        refine v_iload hX eX6_countBetter_67 rfl ?_
        refine v_iald hX eX6_countBetter_69 (by first | exact ⟨by decide, rfl⟩ | exact AR_rk (by omega)) ⟨by omega, by omega⟩ ?_
        try simp only [Int.toNat_natCast, Int.toNat_zero, Int.reduceToNat]
        refine v_fnV hX eX6_countBetter_70 lV_X6_95 ok_MX5_digitOf ⟨by decide, rfl⟩ rfl ⟨rfl, Nat.le_of_ble_eq_true rfl⟩ (Nat.le_of_ble_eq_true rfl) (c_X5_digitOf (by omega) ⟨by omega, by omega⟩) rfl ?_
        try simp only [Int.toNat_natCast, Int.toNat_zero, Int.reduceToNat]
        refine v_ladd hX eX6_countBetter_73 ?_
        refine v_lstore hX eX6_countBetter_74 rfl rfl ?_
        rw [show cU2 h (h 4) (i + 1) = cU2 h (h 4) i + (h 19 ((i : Int) * 6 + colI (h 4 i)).toNat - (cntF (fbF h (h 4) i) i : Nat)) from by rw [cU2, cA, prs2, if_pos c30, if_pos c30, cU2, ixC]; omega, show lU h (h 4) (i + 1) = lU h (h 4) i + h 20 ((i : Int) * 6 + colI (h 4 i)).toNat from by rw [lU, if_pos c30, ixC]] at ih
        refine v_iinc hX eX6_countBetter_76 rfl rfl rfl ?_
        exact v_goto hX eX6_countBetter_79 (tgt := 10) rfl ih
  have l0 := loop 0 (by omega)
  show VW X 0 [some (mA 2), some (mA 4), none, none, none, none, none] [] h
  refine v_ldc2 (z := 28) hX eX6_countBetter_0 k_X6_81 (by decide) ?_
  refine v_lstore_n hX eX6_countBetter_3 rfl rfl ?_
  refine v_lconst (z := 0) hX eX6_countBetter_4 (by decide) ?_
  refine v_lstore hX eX6_countBetter_5 rfl rfl ?_
  refine v_iconst hX eX6_countBetter_7 ?_
  refine v_istore hX eX6_countBetter_8 rfl rfl ?_
  exact l0
set_option maxHeartbeats 2000000 in
set_option maxRecDepth 20000 in
theorem c_X6_foundFor {d : Nat} {h : Hp} {p : Int} (hp : 0 ≤ p ∧ p < 8) : Fn d MX6_foundFor [mA 2, mI p] h (some (mI (h 16 p.toNat))) h := by
  intro Q hq X hX hR
  show VW X 0 [some (mA 2), some (mI p)] [] h
  refine v_iload_n hX eX6_foundFor_0 rfl ?_
  refine v_if_lt hX eX6_foundFor_1 (tgt := 13) rfl ⟨by omega, by omega⟩ (fun c1 => False.elim ((by omega))) (fun c1 => ?_)
  refine v_iload_n hX eX6_foundFor_4 rfl ?_
  refine v_aload_n hX eX6_foundFor_5 rfl ?_
  refine v_getA hX eX6_foundFor_6 fi_X6_35 ⟨by decide, rfl⟩ rfl ?_
  refine v_alen hX eX6_foundFor_9 (by first | exact ⟨by decide, rfl⟩ | exact AR_rk (by omega)) ?_
  refine v_icmp_lt hX eX6_foundFor_10 (tgt := 17) rfl ⟨by omega, by omega⟩ ⟨by omega, by omega⟩ (fun c10 => ?_) (fun c10 => False.elim ((by omega)))
  refine v_aload_n hX eX6_foundFor_17 rfl ?_
  refine v_getA hX eX6_foundFor_18 fi_X6_35 ⟨by decide, rfl⟩ rfl ?_
  refine v_iload_n hX eX6_foundFor_21 rfl ?_
  refine v_iald hX eX6_foundFor_22 (by first | exact ⟨by decide, rfl⟩ | exact AR_rk (by omega)) ⟨by omega, by omega⟩ ?_
  try simp only [Int.toNat_natCast, Int.toNat_zero, Int.reduceToNat]
  exact v_ireturn hX hR eX6_foundFor_23 rfl (hq)
theorem cpyH_s {h : Hp} {i : Nat} : up (cpyH h 16 4 i) 4 i (h 16 i) = cpyH h 16 4 (i + 1) := by
  funext a b
  simp only [up, cpyH]
  by_cases ha : a = 4
  · subst ha
    by_cases hb : b = i
    · simp [hb]
    · have : (b < i + 1) ↔ b < i := by omega
      simp [hb, this]
  · simp [ha]
set_option maxHeartbeats 2000000 in
set_option maxRecDepth 20000 in
theorem c_X6_copyFound {d : Nat} {h : Hp} : Fn d MX6_copyFound [mA 2, mA 4] h none (cpyH h 16 4 8) := by
  intro Q hq X hX hR
  have loop : ∀ i : Nat, i ≤ 8 → VW X 2 [some (mA 2), some (mA 4), some (mI i)] [] (cpyH h 16 4 i) := by
    refine loop_up 8 ?_ ?_
    · refine v_iload_n hX eX6_copyFound_2 rfl ?_
      refine v_aload_n hX eX6_copyFound_3 rfl ?_
      refine v_getA hX eX6_copyFound_4 fi_X6_35 ⟨by decide, rfl⟩ rfl ?_
      refine v_alen hX eX6_copyFound_7 (by first | exact ⟨by decide, rfl⟩ | exact AR_rk (by omega)) ?_
      refine v_icmp_ge hX eX6_copyFound_8 (tgt := 32) rfl ⟨by omega, by omega⟩ ⟨by omega, by omega⟩ (fun c8 => ?_) (fun c8 => False.elim ((by omega)))
      exact v_return hX hR eX6_copyFound_32 rfl (hq)
    · intro i hi ih
      have e16 : cpyH h 16 4 i 16 i = h 16 i := by simp [cpyH]
      refine v_iload_n hX eX6_copyFound_2 rfl ?_
      refine v_aload_n hX eX6_copyFound_3 rfl ?_
      refine v_getA hX eX6_copyFound_4 fi_X6_35 ⟨by decide, rfl⟩ rfl ?_
      refine v_alen hX eX6_copyFound_7 (by first | exact ⟨by decide, rfl⟩ | exact AR_rk (by omega)) ?_
      refine v_icmp_ge hX eX6_copyFound_8 (tgt := 32) rfl ⟨by omega, by omega⟩ ⟨by omega, by omega⟩ (fun c8 => False.elim ((by omega))) (fun c8 => ?_)
      refine v_iload_n hX eX6_copyFound_11 rfl ?_
      refine v_aload_n hX eX6_copyFound_12 rfl ?_
      refine v_alen hX eX6_copyFound_13 (by first | exact ⟨by decide, rfl⟩ | exact AR_rk (by omega)) ?_
      refine v_icmp_ge hX eX6_copyFound_14 (tgt := 32) rfl ⟨by omega, by omega⟩ ⟨by omega, by omega⟩ (fun c14 => False.elim ((by omega))) (fun c14 => ?_)
      refine v_aload_n hX eX6_copyFound_17 rfl ?_
      refine v_iload_n hX eX6_copyFound_18 rfl ?_
      refine v_aload_n hX eX6_copyFound_19 rfl ?_
      refine v_getA hX eX6_copyFound_20 fi_X6_35 ⟨by decide, rfl⟩ rfl ?_
      refine v_iload_n hX eX6_copyFound_23 rfl ?_
      refine v_iald hX eX6_copyFound_24 (by first | exact ⟨by decide, rfl⟩ | exact AR_rk (by omega)) ⟨by omega, by omega⟩ ?_
      try simp only [Int.toNat_natCast, Int.toNat_zero, Int.reduceToNat]
      rw [e16]
      refine v_iast hX eX6_copyFound_25 (by first | exact ⟨by decide, rfl⟩ | exact AR_rk (by omega)) ⟨by omega, by omega⟩ ?_
      try simp only [Int.toNat_natCast, Int.toNat_zero, Int.reduceToNat]
      rw [cpyH_s]
      refine v_iinc hX eX6_copyFound_26 rfl rfl rfl ?_
      refine v_goto hX eX6_copyFound_29 (tgt := 2) rfl ?_
      exact ih
  have l0 := loop 0 (by omega)
  rw [show cpyH h 16 4 0 = h from by funext a x; simp [cpyH]] at l0
  show VW X 0 [some (mA 2), some (mA 4), none] [] h
  refine v_iconst hX eX6_copyFound_0 ?_
  refine v_istore_n hX eX6_copyFound_1 rfl rfl ?_
  exact l0
def mvF (h : Hp) : Nat → Bool := fun p => isP h p && (decide (h 4 p ≠ -1) && decide (h 4 p ≠ h 16 p))
set_option maxHeartbeats 2000000 in
set_option maxRecDepth 20000 in
theorem c_X6_movedFrom {d : Nat} {h : Hp} (hb : 0 ≤ h 2 6 ∧ h 2 6 ≤ 255) (hL : PLI h) (hf : ∀ p, p < 8 → rng (h 16 p)) : Fn (d + 1) MX6_movedFrom [mA 2, mA 4] h (some (mI (cntF (mvF h) 8 : Nat))) h := by
  intro Q hq X hX hR
  have loop : ∀ i : Nat, i ≤ 8 → VW X 4 [some (mA 2), some (mA 4), some (mI (cntF (mvF h) i : Nat)), some (mI i)] [] h := by
    refine loop_up 8 ?_ ?_
    · refine v_iload_n hX eX6_movedFrom_4 rfl ?_
      refine v_aload_n hX eX6_movedFrom_5 rfl ?_
      refine v_getA hX eX6_movedFrom_6 fi_X6_35 ⟨by decide, rfl⟩ rfl ?_
      refine v_alen hX eX6_movedFrom_9 (by first | exact ⟨by decide, rfl⟩ | exact AR_rk (by omega)) ?_
      refine v_icmp_ge hX eX6_movedFrom_10 (tgt := 55) rfl ⟨by omega, by omega⟩ ⟨by omega, by omega⟩ (fun c10 => ?_) (fun c10 => False.elim ((by omega)))
      refine v_iload_n hX eX6_movedFrom_55 rfl ?_
      exact v_ireturn hX hR eX6_movedFrom_56 rfl (hq)
    · intro i hi ih
      have li := hL i hi
      have fi := hf i hi
      have no : mvF h i = false → VW X 49 [some (mA 2), some (mA 4), some (mI (cntF (mvF h) i : Nat)), some (mI i)] [] h := by
        intro hf
        rw [cntF, hf] at ih
        refine v_iinc hX eX6_movedFrom_49 rfl rfl rfl ?_
        exact v_goto hX eX6_movedFrom_52 (tgt := 4) rfl ih
      refine v_iload_n hX eX6_movedFrom_4 rfl ?_
      refine v_aload_n hX eX6_movedFrom_5 rfl ?_
      refine v_getA hX eX6_movedFrom_6 fi_X6_35 ⟨by decide, rfl⟩ rfl ?_
      refine v_alen hX eX6_movedFrom_9 (by first | exact ⟨by decide, rfl⟩ | exact AR_rk (by omega)) ?_
      refine v_icmp_ge hX eX6_movedFrom_10 (tgt := 55) rfl ⟨by omega, by omega⟩ ⟨by omega, by omega⟩ (fun c10 => False.elim ((by omega))) (fun c10 => ?_)
      refine v_iload_n hX eX6_movedFrom_13 rfl ?_
      refine v_aload_n hX eX6_movedFrom_14 rfl ?_
      refine v_alen hX eX6_movedFrom_15 (by first | exact ⟨by decide, rfl⟩ | exact AR_rk (by omega)) ?_
      refine v_icmp_ge hX eX6_movedFrom_16 (tgt := 55) rfl ⟨by omega, by omega⟩ ⟨by omega, by omega⟩ (fun c16 => False.elim ((by omega))) (fun c16 => ?_)
      refine v_aload_n hX eX6_movedFrom_19 rfl ?_
      refine v_iload_n hX eX6_movedFrom_20 rfl ?_
      refine v_fnV hX eX6_movedFrom_21 lV_X6_83 ok_MX6_isPresent ⟨by decide, rfl⟩ rfl ⟨rfl, Nat.le_of_ble_eq_true rfl⟩ (Nat.le_of_ble_eq_true rfl) (c_X6_isPresent (by omega) hb) rfl ?_
      try simp only [Int.toNat_natCast, Int.toNat_zero, Int.reduceToNat]
      refine v_ifB_eq hX eX6_movedFrom_24 (tgt := 49) rfl (fun c24 => ?_) (fun c24 => ?_)
      · exact no (by simp [mvF]; intros; simp_all)
      · refine v_aload_n hX eX6_movedFrom_27 rfl ?_
        refine v_iload_n hX eX6_movedFrom_28 rfl ?_
        refine v_iald hX eX6_movedFrom_29 (by first | exact ⟨by decide, rfl⟩ | exact AR_rk (by omega)) ⟨by omega, by omega⟩ ?_
        try simp only [Int.toNat_natCast, Int.toNat_zero, Int.reduceToNat]
        refine v_iconst hX eX6_movedFrom_30 ?_
        refine v_icmp_eq hX eX6_movedFrom_31 (tgt := 49) rfl ⟨by omega, by omega⟩ ⟨by omega, by omega⟩ (fun c31 => ?_) (fun c31 => ?_)
        · exact no (by simp [mvF]; intros; simp_all)
        · refine v_aload_n hX eX6_movedFrom_34 rfl ?_
          refine v_iload_n hX eX6_movedFrom_35 rfl ?_
          refine v_iald hX eX6_movedFrom_36 (by first | exact ⟨by decide, rfl⟩ | exact AR_rk (by omega)) ⟨by omega, by omega⟩ ?_
          try simp only [Int.toNat_natCast, Int.toNat_zero, Int.reduceToNat]
          refine v_aload_n hX eX6_movedFrom_37 rfl ?_
          refine v_getA hX eX6_movedFrom_38 fi_X6_35 ⟨by decide, rfl⟩ rfl ?_
          refine v_iload_n hX eX6_movedFrom_41 rfl ?_
          refine v_iald hX eX6_movedFrom_42 (by first | exact ⟨by decide, rfl⟩ | exact AR_rk (by omega)) ⟨by omega, by omega⟩ ?_
          try simp only [Int.toNat_natCast, Int.toNat_zero, Int.reduceToNat]
          refine v_icmp_eq hX eX6_movedFrom_43 (tgt := 49) rfl ⟨by omega, by omega⟩ ⟨by omega, by omega⟩ (fun c43 => ?_) (fun c43 => ?_)
          · exact no (by simp [mvF]; intros; simp_all)
          · refine v_iinc hX eX6_movedFrom_46 rfl rfl rfl ?_
            rw [cntF, if_pos (show mvF h i = true from by simp [mvF]; exact ⟨c24, c31, c43⟩)] at ih
            refine v_iinc hX eX6_movedFrom_49 rfl rfl rfl ?_
            exact v_goto hX eX6_movedFrom_52 (tgt := 4) rfl ih
  show VW X 0 [some (mA 2), some (mA 4), none, none] [] h
  refine v_iconst hX eX6_movedFrom_0 ?_
  refine v_istore_n hX eX6_movedFrom_1 rfl rfl ?_
  refine v_iconst hX eX6_movedFrom_2 ?_
  refine v_istore_n hX eX6_movedFrom_3 rfl rfl ?_
  exact loop 0 (by omega)
