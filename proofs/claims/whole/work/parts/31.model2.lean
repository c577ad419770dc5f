/-! sizes, leaders, skills and WRONGS in the model, in the class's words -/
def LDI (h : Hp) : Prop := ∀ q, q < (h 1 4).toNat → h (39 + q) 0 = 3 → 0 ≤ h (39 + q) 4 ∧ h (39 + q) 4 < h 1 3
def twP (h : Hp) (q : Nat) (k : Int) : Prop := h (39 + q) 0 = 2 ∧ h (39 + q) 2 < k
set_option maxHeartbeats 2000000 in
set_option maxRecDepth 20000 in
theorem c_X8_isTwice {d : Nat} {h : Hp} {q : Nat} {k : Int} (hI : RI h) (r : RLr h) (hq5 : q < (h 1 4).toNat) (hk : rng k) : Fn d MX8_isTwice [mA 44, mI q, mI k] h (some (mI (b01 (twP h q k)))) h := by
  intro Q hq X hX hR
  have hm := hI.q
  obtain ⟨p1, p2, p3, p4, p5, p6, p7⟩ := hI.pr (p := q) (by omega)
  obtain ⟨r1, r2, r3, r4, r5, r6⟩ := r.pr hq5
  show VW X 0 [some (mA 44), some (mI q), some (mI k)] [] h
  refine v_aload_n hX eX8_isTwice_0 rfl ?_
  refine v_getA hX eX8_isTwice_1 fi_X8_38 ⟨by decide, rfl⟩ rfl ?_
  refine v_iload_n hX eX8_isTwice_4 rfl ?_
  refine v_iald hX eX8_isTwice_5 (by first | exact ⟨by decide, rfl⟩ | exact AR_rk (by omega)) ⟨by omega, by omega⟩ ?_
  try simp only [Int.toNat_natCast, Int.toNat_zero, Int.reduceToNat]
  refine v_iconst hX eX8_isTwice_6 ?_
  refine v_icmp_ne hX eX8_isTwice_7 (tgt := 24) rfl ⟨by omega, by omega⟩ ⟨by omega, by omega⟩ (fun c7 => ?_) (fun c7 => ?_)
  · refine v_iconst hX eX8_isTwice_24 ?_
    exact v_zreturn hX hR eX8_isTwice_25 rfl (by omega) (q_f (fun z => by have := z.1; omega) hq)
  · refine v_iload_n hX eX8_isTwice_10 rfl ?_
    refine v_aload_n hX eX8_isTwice_11 rfl ?_
    refine v_getA hX eX8_isTwice_12 fi_X8_44 ⟨by decide, rfl⟩ rfl ?_
    refine v_iload_n hX eX8_isTwice_15 rfl ?_
    refine v_iald hX eX8_isTwice_16 (by first | exact ⟨by decide, rfl⟩ | exact AR_rk (by omega)) ⟨by omega, by omega⟩ ?_
    try simp only [Int.toNat_natCast, Int.toNat_zero, Int.reduceToNat]
    refine v_icmp_le hX eX8_isTwice_17 (tgt := 24) rfl ⟨by omega, by omega⟩ ⟨by omega, by omega⟩ (fun c17 => ?_) (fun c17 => ?_)
    · refine v_iconst hX eX8_isTwice_24 ?_
      exact v_zreturn hX hR eX8_isTwice_25 rfl (by omega) (q_f (fun z => by have := z.2; omega) hq)
    · refine v_iconst hX eX8_isTwice_20 ?_
      refine v_goto hX eX8_isTwice_21 (tgt := 25) rfl ?_
      exact v_zreturn hX hR eX8_isTwice_25 rfl (by omega) (q_t ⟨by omega, by omega⟩ hq)
set_option maxHeartbeats 2000000 in
set_option maxRecDepth 20000 in
theorem c_X8_isSize {d : Nat} {h : Hp} {q : Nat} {k : Int} (hI : RI h) (r : RLr h) (hq5 : q < (h 1 4).toNat) (hk : 0 ≤ k ∧ k ≤ 8) : Fn (d + 1) MX8_isSize [mA 44, mI q, mI k] h (some (mI (b01 (k = 0 ∨ tks h q k)))) h := by
  intro Q hq X hX hR
  have hm := hI.q
  obtain ⟨p1, p2, p3, p4, p5, p6, p7⟩ := hI.pr (p := q) (by omega)
  obtain ⟨r1, r2, r3, r4, r5, r6⟩ := r.pr hq5
  show VW X 0 [some (mA 44), some (mI q), some (mI k)] [] h
  refine v_iload_n hX eX8_isSize_0 rfl ?_
  refine v_if_ne hX eX8_isSize_1 (tgt := 6) rfl ⟨by omega, by omega⟩ (fun c1 => ?_) (fun c1 => ?_)
  · refine v_aload_n hX eX8_isSize_6 rfl ?_
    refine v_iload_n hX eX8_isSize_7 rfl ?_
    refine v_iload_n hX eX8_isSize_8 rfl ?_
    refine v_fnV hX eX8_isSize_9 lV_X8_140 ok_MX8_isTwice ⟨by decide, rfl⟩ rfl ⟨rfl, Nat.le_of_ble_eq_true rfl⟩ (Nat.le_of_ble_eq_true rfl) (c_X8_isTwice hI r hq5 ⟨by omega, by omega⟩) rfl ?_
    try simp only [Int.toNat_natCast, Int.toNat_zero, Int.reduceToNat]
    refine v_ifB_eq hX eX8_isSize_12 (tgt := 39) rfl (fun c12 => ?_) (fun c12 => ?_)
    · refine v_iload_n hX eX8_isSize_39 rfl ?_
      refine v_i2l hX eX8_isSize_40 ⟨by omega, by omega⟩ ?_
      refine v_aload_n hX eX8_isSize_41 rfl ?_
      refine v_getA hX eX8_isSize_42 fi_X8_41 ⟨by decide, rfl⟩ rfl ?_
      refine v_iload_n hX eX8_isSize_45 rfl ?_
      refine v_iald hX eX8_isSize_46 (by first | exact ⟨by decide, rfl⟩ | exact AR_rk (by omega)) ⟨by omega, by omega⟩ ?_
      try simp only [Int.toNat_natCast, Int.toNat_zero, Int.reduceToNat]
      refine v_i2l hX eX8_isSize_47 ⟨by omega, by omega⟩ ?_
      refine v_aload_n hX eX8_isSize_48 rfl ?_
      refine v_getA hX eX8_isSize_49 fi_X8_44 ⟨by decide, rfl⟩ rfl ?_
      refine v_iload_n hX eX8_isSize_52 rfl ?_
      refine v_iald hX eX8_isSize_53 (by first | exact ⟨by decide, rfl⟩ | exact AR_rk (by omega)) ⟨by omega, by omega⟩ ?_
      try simp only [Int.toNat_natCast, Int.toNat_zero, Int.reduceToNat]
      refine v_i2l hX eX8_isSize_54 ⟨by omega, by omega⟩ ?_
      refine v_fnS hX eX8_isSize_55 lS_X8_87 ok_MX8_in ⟨rfl, Nat.le_of_ble_eq_true rfl⟩ (Nat.le_of_ble_eq_true rfl) (c_X8_in ⟨by omega, by omega⟩ ⟨by omega, by omega⟩ ⟨by omega, by omega⟩) rfl ?_
      try simp only [Int.toNat_natCast, Int.toNat_zero, Int.reduceToNat]
      refine v_ifB_eq hX eX8_isSize_58 (tgt := 81) rfl (fun c58 => ?_) (fun c58 => ?_)
      · refine v_iconst hX eX8_isSize_81 ?_
        exact v_zreturn hX hR eX8_isSize_82 rfl (by omega) (q_f (fun z => by rcases z with z | z | z; omega; exact c12 ⟨z.1, z.2.1⟩; exact c58 ⟨by have := z.1; omega, by have := z.2.1; omega⟩) hq)
      · refine v_aload_n hX eX8_isSize_61 rfl ?_
        refine v_getA hX eX8_isSize_62 fi_X8_38 ⟨by decide, rfl⟩ rfl ?_
        refine v_iload_n hX eX8_isSize_65 rfl ?_
        refine v_iald hX eX8_isSize_66 (by first | exact ⟨by decide, rfl⟩ | exact AR_rk (by omega)) ⟨by omega, by omega⟩ ?_
        try simp only [Int.toNat_natCast, Int.toNat_zero, Int.reduceToNat]
        refine v_iconst hX eX8_isSize_67 ?_
        refine v_icmp_ne hX eX8_isSize_68 (tgt := 77) rfl ⟨by omega, by omega⟩ ⟨by omega, by omega⟩ (fun c68 => ?_) (fun c68 => ?_)
        · refine v_iconst hX eX8_isSize_77 ?_
          refine v_goto hX eX8_isSize_78 (tgt := 82) rfl ?_
          exact v_zreturn hX hR eX8_isSize_82 rfl (by omega) (q_t (Or.inr (Or.inr ⟨by omega, by omega, Or.inl (by omega)⟩)) hq)
        · refine v_iload_n hX eX8_isSize_71 rfl ?_
          refine v_iconst hX eX8_isSize_72 ?_
          refine v_irem hX eX8_isSize_73 ⟨by omega, by omega, by omega⟩ ?_
          rw [irem2' hk]
          refine v_if_ne hX eX8_isSize_74 (tgt := 81) rfl ⟨by omega, by omega⟩ (fun c74 => ?_) (fun c74 => ?_)
          · refine v_iconst hX eX8_isSize_81 ?_
            exact v_zreturn hX hR eX8_isSize_82 rfl (by omega) (q_f (fun z => by rcases z with z | z | z; omega; exact c12 ⟨z.1, z.2.1⟩; (have := z.2.2; omega)) hq)
          · refine v_iconst hX eX8_isSize_77 ?_
            refine v_goto hX eX8_isSize_78 (tgt := 82) rfl ?_
            exact v_zreturn hX hR eX8_isSize_82 rfl (by omega) (q_t (Or.inr (Or.inr ⟨by omega, by omega, Or.inr (by omega)⟩)) hq)
    · refine v_iload_n hX eX8_isSize_15 rfl ?_
      refine v_i2l hX eX8_isSize_16 ⟨by omega, by omega⟩ ?_
      refine v_iconst hX eX8_isSize_17 ?_
      refine v_aload_n hX eX8_isSize_18 rfl ?_
      refine v_getA hX eX8_isSize_19 fi_X8_41 ⟨by decide, rfl⟩ rfl ?_
      refine v_iload_n hX eX8_isSize_22 rfl ?_
      refine v_iald hX eX8_isSize_23 (by first | exact ⟨by decide, rfl⟩ | exact AR_rk (by omega)) ⟨by omega, by omega⟩ ?_
      try simp only [Int.toNat_natCast, Int.toNat_zero, Int.reduceToNat]
      refine v_imul hX eX8_isSize_24 ?_
      refine v_i2l hX eX8_isSize_25 ⟨by omega, by omega⟩ ?_
      refine v_iconst hX eX8_isSize_26 ?_
      refine v_aload_n hX eX8_isSize_27 rfl ?_
      refine v_getA hX eX8_isSize_28 fi_X8_44 ⟨by decide, rfl⟩ rfl ?_
      refine v_iload_n hX eX8_isSize_31 rfl ?_
      refine v_iald hX eX8_isSize_32 (by first | exact ⟨by decide, rfl⟩ | exact AR_rk (by omega)) ⟨by omega, by omega⟩ ?_
      try simp only [Int.toNat_natCast, Int.toNat_zero, Int.reduceToNat]
      refine v_imul hX eX8_isSize_33 ?_
      refine v_i2l hX eX8_isSize_34 ⟨by omega, by omega⟩ ?_
      refine v_fnS hX eX8_isSize_35 lS_X8_87 ok_MX8_in ⟨rfl, Nat.le_of_ble_eq_true rfl⟩ (Nat.le_of_ble_eq_true rfl) (c_X8_in ⟨by omega, by omega⟩ ⟨by omega, by omega⟩ ⟨by omega, by omega⟩) rfl ?_
      try simp only [Int.toNat_natCast, Int.toNat_zero, Int.reduceToNat]
      exact v_zreturn hX hR eX8_isSize_38 rfl (b01_or _) (q_i (b01_iff ⟨fun z => ⟨by rcases z with z | z | z; omega; (have := z.2.2.1; omega); (have := z.2.1; have := c12.2; omega), by rcases z with z | z | z; omega; (have := z.2.2.2; omega); (have := z.2.1; have := c12.2; omega)⟩, fun z => Or.inr (Or.inl ⟨c12.1, c12.2, by omega, by omega⟩)⟩) hq)
  · refine v_iconst hX eX8_isSize_4 ?_
    exact v_zreturn hX hR eX8_isSize_5 rfl (by omega) (q_t (Or.inl (by omega)) hq)
/-- a group by a PLAN t of n PUPILS -/
def gT (t : Nat → Int) (n : Nat) (q : Int) : Nat := bs (fun p => decide (t p = q)) n
set_option maxHeartbeats 2000000 in
set_option maxRecDepth 20000 in
theorem c_X8_isLed {d : Nat} {h : Hp} {q k : Nat} {m : Int} {t : Nat → Int} (hI : RI h) (r : RLr h) (hl : LDI h) (hq5 : q < (h 1 4).toNat) (hk : AR k 0 8) (hm : rng m) (ht : ∀ p, p < (h 1 3).toNat → h k p = t p ∧ rng (t p)) : Fn d MX8_isLed [mA 44, mA k, mI q, mI m] h (some (mI (b01 (m = 0 ∨ ¬ lkl h q (gT t (h 1 3).toNat q))))) h := by
  intro Q hq X hX hR
  have hn := hI.n
  have hmm := hI.q
  obtain ⟨p1, p2, p3, p4, p5, p6, p7⟩ := hI.pr (p := q) (by omega)
  obtain ⟨r1, r2, r3, r4, r5, r6⟩ := r.pr hq5
  have hlq := hl q hq5
  show VW X 0 [some (mA 44), some (mA k), some (mI q), some (mI m)] [] h
  refine v_aload_n hX eX8_isLed_0 rfl ?_
  refine v_getA hX eX8_isLed_1 fi_X8_38 ⟨by decide, rfl⟩ rfl ?_
  refine v_iload_n hX eX8_isLed_4 rfl ?_
  refine v_iald hX eX8_isLed_5 (⟨by decide, rfl⟩ : AR 54 0 5) ⟨by omega, by omega⟩ ?_
  rw [Int.toNat_natCast]
  refine v_iconst hX eX8_isLed_6 ?_
  refine v_icmp_ne hX eX8_isLed_7 (tgt := 26) rfl ⟨by omega, by omega⟩ ⟨by omega, by omega⟩ (fun c7 => ?_) (fun c7 => ?_)
  · refine v_iconst hX eX8_isLed_26 ?_
    refine v_goto hX eX8_isLed_27 (tgt := 31) rfl ?_
    exact v_zreturn hX hR eX8_isLed_31 rfl (by omega) (q_t (Or.inr (fun z => c7 (by have := z.1; omega))) hq)
  · have hle := hlq (by omega)
    obtain ⟨te, tr⟩ := ht (h (39 + q) 4).toNat (by omega)
    have bit : (gT t (h 1 3).toNat q).testBit (h (39 + q) 4).toNat = true ↔ t (h (39 + q) 4).toNat = q := by
      unfold gT
      rw [bs_bit]
      simp
      intro _
      omega
    refine v_iload_n hX eX8_isLed_10 rfl ?_
    refine v_if_eq hX eX8_isLed_11 (tgt := 26) rfl hm (fun c11 => ?_) (fun c11 => ?_)
    · refine v_iconst hX eX8_isLed_26 ?_
      refine v_goto hX eX8_isLed_27 (tgt := 31) rfl ?_
      exact v_zreturn hX hR eX8_isLed_31 rfl (by omega) (q_t (Or.inl c11) hq)
    · refine v_aload_n hX eX8_isLed_14 rfl ?_
      refine v_aload_n hX eX8_isLed_15 rfl ?_
      refine v_getA hX eX8_isLed_16 fi_X8_50 ⟨by decide, rfl⟩ rfl ?_
      refine v_iload_n hX eX8_isLed_19 rfl ?_
      refine v_iald hX eX8_isLed_20 (⟨by decide, rfl⟩ : AR 58 0 5) ⟨by omega, by omega⟩ ?_
      rw [Int.toNat_natCast]
      refine v_iald hX eX8_isLed_21 hk ⟨by omega, by omega⟩ ?_
      rw [r5, te]
      refine v_iload_n hX eX8_isLed_22 rfl ?_
      refine v_icmp_ne hX eX8_isLed_23 (tgt := 30) rfl ⟨by omega, by omega⟩ ⟨by omega, by omega⟩ (fun c23 => ?_) (fun c23 => ?_)
      · refine v_iconst hX eX8_isLed_30 ?_
        exact v_zreturn hX hR eX8_isLed_31 rfl (by omega) (q_f (fun z => z.elim c11 (fun z => z ⟨by omega, fun y => c23 (bit.mp y)⟩)) hq)
      · refine v_iconst hX eX8_isLed_26 ?_
        refine v_goto hX eX8_isLed_27 (tgt := 31) rfl ?_
        exact v_zreturn hX hR eX8_isLed_31 rfl (by omega) (q_t (Or.inr (fun z => z.2 (bit.mpr c23))) hq)
set_option maxHeartbeats 2000000 in
set_option maxRecDepth 20000 in
theorem c_X8_hasSkills {d : Nat} {h : Hp} {q k m : Nat} {t : Nat → Int} (hI : RI h) (r : RLr h) (hq5 : q < (h 1 4).toNat) (hk : AR k 0 8) (hm : m = bcnt (gT t (h 1 3).toNat q)) (hs : m = 0 ∨ tks h q m) (ht : ∀ p, p < (h 1 3).toNat → h k p = t p ∧ rng (t p)) : Fn (d + 1) MX8_hasSkills [mA 44, mA k, mI q, mI m] h (some (mI (b01 (m = 0 ∨ ¬ lks h q (gT t (h 1 3).toNat q))))) h := by
  intro Q hq X hX hR
  have hn := hI.n
  have hmm := hI.q
  have hb8 := bcnt_le (gT t (h 1 3).toNat q)
  obtain ⟨p1, p2, p3, p4, p5, p6, p7⟩ := hI.pr (p := q) (by omega)
  obtain ⟨r1, r2, r3, r4, r5, r6⟩ := r.pr hq5
  have en := r.n
  by_cases h0 : m = 0
  · rw [b01_t (Or.inl h0)] at hq
    show VW X 0 [some (mA 44), some (mA k), some (mI q), some (mI m), none, none, none] [] h
    refine v_iconst hX eX8_hasSkills_0 ?_
    refine v_istore hX eX8_hasSkills_1 rfl rfl ?_
    refine v_iload hX eX8_hasSkills_3 rfl ?_
    refine v_bipush hX eX8_hasSkills_5 (by decide) ?_
    refine v_icmp_ge hX eX8_hasSkills_7 (tgt := 111) rfl ⟨by omega, by omega⟩ ⟨by omega, by omega⟩ (fun c7 => False.elim ((by omega))) (fun c7 => ?_)
    refine v_iload_n hX eX8_hasSkills_10 rfl ?_
    refine v_if_le hX eX8_hasSkills_11 (tgt := 111) rfl ⟨by omega, by omega⟩ (fun c11 => ?_) (fun c11 => False.elim ((by omega)))
    refine v_iconst hX eX8_hasSkills_111 ?_
    exact v_zreturn hX hR eX8_hasSkills_112 rfl (by omega) (hq)
  · have tw : twP h q m ↔ rtw h q (bcnt (gT t (h 1 3).toNat q)) := by
      rw [← hm]
      constructor
      · intro z
        rcases hs with hs | hs | hs
        · exact absurd hs h0
        · exact hs
        · have := hs.2.1; have := z.2; omega
      · intro z
        exact ⟨z.1, z.2.1⟩
    have cf : ∀ b : Nat, cntF (hasF h (gT t (h 1 3).toNat q) b) (h 1 3).toNat = cntF (fun p => decide (t p = q) && skB h p b) (h 1 3).toNat := fun b => cntF_congr _ (fun p hp => by
      unfold hasF gT
      rw [bs_bit]
      simp [hp])
    have bloop : ∀ (j i : Nat), i + j = 8 → (∀ b, b < i → neB h q b = true → ¬ ((rtw h q (bcnt (gT t (h 1 3).toNat q)) ∧ cntF (hasF h (gT t (h 1 3).toNat q) b) (h 1 3).toNat < 2) ∨ (¬ rtw h q (bcnt (gT t (h 1 3).toNat q)) ∧ cntF (hasF h (gT t (h 1 3).toNat q) b) (h 1 3).toNat < 1))) → ∀ l5 l6, VW X 3 [some (mA 44), some (mA k), some (mI q), some (mI m), some (mI i), l5, l6] [] h := by
      intro j
      induction j with
      | zero =>
        intro i hi hno l5 l6
        refine v_iload hX eX8_hasSkills_3 rfl ?_
        refine v_bipush hX eX8_hasSkills_5 (by decide) ?_
        refine v_icmp_ge hX eX8_hasSkills_7 (tgt := 111) rfl ⟨by omega, by omega⟩ ⟨by omega, by omega⟩ (fun c7 => ?_) (fun c7 => False.elim ((by omega)))
        refine v_iconst hX eX8_hasSkills_111 ?_
        exact v_zreturn hX hR eX8_hasSkills_112 rfl (by omega) (q_t (Or.inr (fun z => by obtain ⟨b, b1, b2, b3⟩ := z; exact hno b (by omega) b2 b3)) hq)
      | succ j ih =>
        intro i hi hno l5 l6
        have fin : ∀ l6, VW X 69 [some (mA 44), some (mA k), some (mI q), some (mI m), some (mI i), some (mI (cntF (fun p => decide (t p = q) && skB h p i) (h 1 3).toNat : Nat)), l6] [] h := by
          intro l6
          have cl := cntF_le (fun p => decide (t p = q) && skB h p i) (h 1 3).toNat
          have cfi := cf i
          have nb : band (bshr (h (39 + q) 3) i) 1 = b01 (neB h q i = true) := by
            have := bitZ (s := h (39 + q) 3) (i := (i : Int)) p4 (by omega)
            rw [Int.toNat_natCast] at this
            exact this
          have br := b01_rng (neB h q i = true)
          have next : (neB h q i = true → ¬ ((rtw h q (bcnt (gT t (h 1 3).toNat q)) ∧ cntF (hasF h (gT t (h 1 3).toNat q) i) (h 1 3).toNat < 2) ∨ (¬ rtw h q (bcnt (gT t (h 1 3).toNat q)) ∧ cntF (hasF h (gT t (h 1 3).toNat q) i) (h 1 3).toNat < 1))) → ∀ l5 l6, VW X 105 [some (mA 44), some (mA k), some (mI q), some (mI m), some (mI i), l5, l6] [] h := by
            intro hno2 l5 l6
            refine v_iinc hX eX8_hasSkills_105 rfl rfl rfl ?_
            exact v_goto hX eX8_hasSkills_108 (tgt := 3) rfl (ih (i + 1) (by omega) (fun b hb => if e : b = i then (by subst e; exact hno2) else hno b (by omega)) _ _)
          refine v_aload_n hX eX8_hasSkills_69 rfl ?_
          refine v_getA hX eX8_hasSkills_70 fi_X8_47 ⟨by decide, rfl⟩ rfl ?_
          refine v_iload_n hX eX8_hasSkills_73 rfl ?_
          refine v_iald hX eX8_hasSkills_74 (by first | exact ⟨by decide, rfl⟩ | exact AR_rk (by omega)) ⟨by omega, by omega⟩ ?_
          try simp only [Int.toNat_natCast, Int.toNat_zero, Int.reduceToNat]
          rw [r4]
          refine v_iload hX eX8_hasSkills_75 rfl ?_
          refine v_ishr hX eX8_hasSkills_77 ?_
          refine v_iconst hX eX8_hasSkills_78 ?_
          refine v_iand hX eX8_hasSkills_79 ?_
          rw [nb]
          refine v_iconst hX eX8_hasSkills_80 ?_
          refine v_icmp_ne hX eX8_hasSkills_81 (tgt := 105) rfl ⟨by omega, by omega⟩ ⟨by omega, by omega⟩ (fun c81 => ?_) (fun c81 => ?_)
          · exact next (fun z => absurd (b01_t z) c81) _ _
          · refine v_iload hX eX8_hasSkills_84 rfl ?_
            refine v_aload_n hX eX8_hasSkills_86 rfl ?_
            refine v_iload_n hX eX8_hasSkills_87 rfl ?_
            refine v_iload_n hX eX8_hasSkills_88 rfl ?_
            refine v_fnV hX eX8_hasSkills_89 lV_X8_140 ok_MX8_isTwice ⟨by decide, rfl⟩ rfl ⟨rfl, Nat.le_of_ble_eq_true rfl⟩ (Nat.le_of_ble_eq_true rfl) (c_X8_isTwice hI r hq5 ⟨by omega, by omega⟩) rfl ?_
            try simp only [Int.toNat_natCast, Int.toNat_zero, Int.reduceToNat]
            refine v_ifB_eq hX eX8_hasSkills_92 (tgt := 99) rfl (fun c92 => ?_) (fun c92 => ?_)
            · refine v_iconst hX eX8_hasSkills_99 ?_
              refine v_icmp_ge hX eX8_hasSkills_100 (tgt := 105) rfl ⟨by omega, by omega⟩ ⟨by omega, by omega⟩ (fun c100 => ?_) (fun c100 => ?_)
              · exact next (fun _ => by rw [cfi]; rintro (⟨a, b⟩ | ⟨a, b⟩); (exact c92 (tw.mpr a)); omega) _ _
              · refine v_iconst hX eX8_hasSkills_103 ?_
                exact v_zreturn hX hR eX8_hasSkills_104 rfl (by omega) (q_f (fun z => z.elim h0 (fun z => z ⟨i, by omega, b01_1.mp c81, Or.inr ⟨fun y => c92 (tw.mpr y), by rw [cfi]; omega⟩⟩)) hq)
            · refine v_iconst hX eX8_hasSkills_95 ?_
              refine v_goto hX eX8_hasSkills_96 (tgt := 100) rfl ?_
              refine v_icmp_ge hX eX8_hasSkills_100 (tgt := 105) rfl ⟨by omega, by omega⟩ ⟨by omega, by omega⟩ (fun c100 => ?_) (fun c100 => ?_)
              · exact next (fun _ => by rw [cfi]; rintro (⟨a, b⟩ | ⟨a, b⟩); omega; (exact a (tw.mp c92))) _ _
              · refine v_iconst hX eX8_hasSkills_103 ?_
                exact v_zreturn hX hR eX8_hasSkills_104 rfl (by omega) (q_f (fun z => z.elim h0 (fun z => z ⟨i, by omega, b01_1.mp c81, Or.inl ⟨tw.mp c92, by rw [cfi]; omega⟩⟩)) hq)
        have ploop : ∀ p : Nat, p ≤ (h 1 3).toNat → VW X 20 [some (mA 44), some (mA k), some (mI q), some (mI m), some (mI i), some (mI (cntF (fun p => decide (t p = q) && skB h p i) p : Nat)), some (mI p)] [] h := by
          refine loop_up _ ?_ ?_
          · refine v_iload hX eX8_hasSkills_20 rfl ?_
            refine v_aload_n hX eX8_hasSkills_22 rfl ?_
            refine v_getI hX eX8_hasSkills_23 fi_X8_84 ⟨by decide, rfl⟩ ?_
            refine v_icmp_ge hX eX8_hasSkills_26 (tgt := 69) rfl ⟨by omega, by omega⟩ ⟨by omega, by omega⟩ (fun c26 => ?_) (fun c26 => False.elim ((by omega)))
            exact fin _
          · intro p hp ihp
            obtain ⟨te, tr⟩ := ht p hp
            have hsk := (hI.pu (p := p) (by omega)).1
            have e45 := (r.pu hp).1
            have sb : band (bshr (h (23 + p) 1) i) 1 = b01 (skB h p i = true) := by
              have := bitZ (s := h (23 + p) 1) (i := (i : Int)) hsk (by omega)
              rw [Int.toNat_natCast] at this
              exact this
            have br := b01_rng (skB h p i = true)
            have add0 : (decide (t p = q) && skB h p i) = false → VW X 60 [some (mA 44), some (mA k), some (mI q), some (mI m), some (mI i), some (mI (cntF (fun p => decide (t p = q) && skB h p i) p : Nat)), some (mI p)] [mI 0, mI (cntF (fun p => decide (t p = q) && skB h p i) p : Nat)] h := by
              intro z
              rw [cntF, if_neg (by rw [z]; decide), Nat.add_zero] at ihp
              refine v_iadd hX eX8_hasSkills_60 ?_
              rw [Int.add_zero]
              refine v_istore hX eX8_hasSkills_61 rfl rfl ?_
              refine v_iinc hX eX8_hasSkills_63 rfl rfl rfl ?_
              exact v_goto hX eX8_hasSkills_66 (tgt := 20) rfl ihp
            refine v_iload hX eX8_hasSkills_20 rfl ?_
            refine v_aload_n hX eX8_hasSkills_22 rfl ?_
            refine v_getI hX eX8_hasSkills_23 fi_X8_84 ⟨by decide, rfl⟩ ?_
            refine v_icmp_ge hX eX8_hasSkills_26 (tgt := 69) rfl ⟨by omega, by omega⟩ ⟨by omega, by omega⟩ (fun c26 => False.elim (by omega)) (fun c26 => ?_)
            refine v_iload hX eX8_hasSkills_29 rfl ?_
            refine v_aload_n hX eX8_hasSkills_31 rfl ?_
            refine v_iload hX eX8_hasSkills_32 rfl ?_
            refine v_iald hX eX8_hasSkills_34 hk ⟨by omega, by omega⟩ ?_
            rw [Int.toNat_natCast, te]
            refine v_iload_n hX eX8_hasSkills_35 rfl ?_
            refine v_icmp_ne hX eX8_hasSkills_36 (tgt := 59) rfl ⟨by omega, by omega⟩ ⟨by omega, by omega⟩ (fun c36 => ?_) (fun c36 => ?_)
            · refine v_iconst hX eX8_hasSkills_59 ?_
              exact add0 (by simp [c36])
            · refine v_aload_n hX eX8_hasSkills_39 rfl ?_
              refine v_getA hX eX8_hasSkills_40 fi_X8_9 ⟨by decide, rfl⟩ rfl ?_
              refine v_iload hX eX8_hasSkills_43 rfl ?_
              refine v_iald hX eX8_hasSkills_45 (by first | exact ⟨by decide, rfl⟩ | exact AR_rk (by omega)) ⟨by omega, by omega⟩ ?_
              try simp only [Int.toNat_natCast, Int.toNat_zero, Int.reduceToNat]
              rw [e45]
              refine v_iload hX eX8_hasSkills_46 rfl ?_
              refine v_ishr hX eX8_hasSkills_48 ?_
              refine v_iconst hX eX8_hasSkills_49 ?_
              refine v_iand hX eX8_hasSkills_50 ?_
              rw [sb]
              refine v_iconst hX eX8_hasSkills_51 ?_
              refine v_icmp_ne hX eX8_hasSkills_52 (tgt := 59) rfl ⟨by omega, by omega⟩ ⟨by omega, by omega⟩ (fun c52 => ?_) (fun c52 => ?_)
              · refine v_iconst hX eX8_hasSkills_59 ?_
                exact add0 (by rw [show skB h p i = false from by cases z : skB h p i; rfl; exact absurd (b01_t z) c52]; simp)
              · refine v_iconst hX eX8_hasSkills_55 ?_
                refine v_goto hX eX8_hasSkills_56 (tgt := 60) rfl ?_
                rw [cntF, if_pos (show (decide (t p = q) && skB h p i) = true from by rw [b01_1.mp c52]; simp; exact c36)] at ihp
                refine v_iadd hX eX8_hasSkills_60 ?_
                refine v_istore hX eX8_hasSkills_61 rfl rfl ?_
                refine v_iinc hX eX8_hasSkills_63 rfl rfl rfl ?_
                exact v_goto hX eX8_hasSkills_66 (tgt := 20) rfl ihp
        refine v_iload hX eX8_hasSkills_3 rfl ?_
        refine v_bipush hX eX8_hasSkills_5 (by decide) ?_
        refine v_icmp_ge hX eX8_hasSkills_7 (tgt := 111) rfl ⟨by omega, by omega⟩ ⟨by omega, by omega⟩ (fun c7 => False.elim ((by omega))) (fun c7 => ?_)
        refine v_iload_n hX eX8_hasSkills_10 rfl ?_
        refine v_if_le hX eX8_hasSkills_11 (tgt := 111) rfl ⟨by omega, by omega⟩ (fun c11 => False.elim ((by omega))) (fun c11 => ?_)
        refine v_iconst hX eX8_hasSkills_14 ?_
        refine v_istore hX eX8_hasSkills_15 rfl rfl ?_
        refine v_iconst hX eX8_hasSkills_17 ?_
        refine v_istore hX eX8_hasSkills_18 rfl rfl ?_
        exact ploop 0 (by omega)
    show VW X 0 [some (mA 44), some (mA k), some (mI q), some (mI m), none, none, none] [] h
    refine v_iconst hX eX8_hasSkills_0 ?_
    refine v_istore hX eX8_hasSkills_1 rfl rfl ?_
    exact bloop 8 0 (by omega) (fun b hb => absurd hb (Nat.not_lt_zero _)) _ _
