set_option maxHeartbeats 2000000 in
set_option maxRecDepth 20000 in
theorem c_bitCount {d : Nat} {h : Hp} {g : Nat} (hg : g < 256) : Fn d MJ6_bitCount_0f7a4 [mI g] h (some (mI (bcnt g : Nat))) h := by
  intro Q hq X hX hR
  show VW X 0 [some (mI g)] [] h
  refine v_iload_n hX eJ6_bitCount_0f7a4_0 rfl ?_
  refine v_iload_n hX eJ6_bitCount_0f7a4_1 rfl ?_
  refine v_iconst hX eJ6_bitCount_0f7a4_2 ?_
  refine v_iushr hX eJ6_bitCount_0f7a4_3 ?_
  refine v_ldcw (z := 1431655765) hX eJ6_bitCount_0f7a4_4 k_J6_265 (by decide) ?_
  refine v_iand hX eJ6_bitCount_0f7a4_7 ?_
  refine v_isub hX eJ6_bitCount_0f7a4_8 ?_
  refine v_istore_n hX eJ6_bitCount_0f7a4_9 rfl rfl ?_
  refine v_iload_n hX eJ6_bitCount_0f7a4_10 rfl ?_
  refine v_ldcw (z := 858993459) hX eJ6_bitCount_0f7a4_11 k_J6_266 (by decide) ?_
  refine v_iand hX eJ6_bitCount_0f7a4_14 ?_
  refine v_iload_n hX eJ6_bitCount_0f7a4_15 rfl ?_
  refine v_iconst hX eJ6_bitCount_0f7a4_16 ?_
  refine v_iushr hX eJ6_bitCount_0f7a4_17 ?_
  refine v_ldcw (z := 858993459) hX eJ6_bitCount_0f7a4_18 k_J6_266 (by decide) ?_
  refine v_iand hX eJ6_bitCount_0f7a4_21 ?_
  refine v_iadd hX eJ6_bitCount_0f7a4_22 ?_
  refine v_istore_n hX eJ6_bitCount_0f7a4_23 rfl rfl ?_
  refine v_iload_n hX eJ6_bitCount_0f7a4_24 rfl ?_
  refine v_iload_n hX eJ6_bitCount_0f7a4_25 rfl ?_
  refine v_iconst hX eJ6_bitCount_0f7a4_26 ?_
  refine v_iushr hX eJ6_bitCount_0f7a4_27 ?_
  refine v_iadd hX eJ6_bitCount_0f7a4_28 ?_
  refine v_ldcw (z := 252645135) hX eJ6_bitCount_0f7a4_29 k_J6_267 (by decide) ?_
  refine v_iand hX eJ6_bitCount_0f7a4_32 ?_
  refine v_istore_n hX eJ6_bitCount_0f7a4_33 rfl rfl ?_
  refine v_iload_n hX eJ6_bitCount_0f7a4_34 rfl ?_
  refine v_iload_n hX eJ6_bitCount_0f7a4_35 rfl ?_
  refine v_bipush hX eJ6_bitCount_0f7a4_36 (by decide) ?_
  refine v_iushr hX eJ6_bitCount_0f7a4_38 ?_
  refine v_iadd hX eJ6_bitCount_0f7a4_39 ?_
  refine v_istore_n hX eJ6_bitCount_0f7a4_40 rfl rfl ?_
  refine v_iload_n hX eJ6_bitCount_0f7a4_41 rfl ?_
  refine v_iload_n hX eJ6_bitCount_0f7a4_42 rfl ?_
  refine v_bipush hX eJ6_bitCount_0f7a4_43 (by decide) ?_
  refine v_iushr hX eJ6_bitCount_0f7a4_45 ?_
  refine v_iadd hX eJ6_bitCount_0f7a4_46 ?_
  refine v_istore_n hX eJ6_bitCount_0f7a4_47 rfl rfl ?_
  refine v_iload_n hX eJ6_bitCount_0f7a4_48 rfl ?_
  refine v_bipush hX eJ6_bitCount_0f7a4_49 (by decide) ?_
  refine v_iand hX eJ6_bitCount_0f7a4_51 ?_
  exact v_ireturn hX hR eJ6_bitCount_0f7a4_52 rfl (q_i (show (bcnt g : Int) = bcE g from (bcE_all g hg).symm) hq)
/-! sizes, leaders, skills of a PROJECT -/
def rtw (h : Hp) (q : Nat) (k : Int) : Prop := h (39 + q) 0 = 2 ∧ h (39 + q) 2 < k ∧ 2 * h (39 + q) 1 ≤ k ∧ k ≤ 2 * h (39 + q) 2
def tks (h : Hp) (q : Nat) (k : Int) : Prop := rtw h q k ∨ (h (39 + q) 1 ≤ k ∧ k ≤ h (39 + q) 2 ∧ (h (39 + q) 0 ≠ 1 ∨ k % 2 = 0))
def lkl (h : Hp) (q g : Nat) : Prop := h (39 + q) 0 = 3 ∧ ¬ g.testBit (h (39 + q) 4).toNat = true
set_option maxHeartbeats 2000000 in
set_option maxRecDepth 20000 in
theorem c_X2_runsTwice {d : Nat} {h : Hp} {q : Nat} {k : Int} (hI : RI h) (hq5 : q < 5) (hk : 0 ≤ k ∧ k ≤ 8) : Fn d MX2_runsTwice [mA (39 + q), mI k] h (some (mI (b01 (rtw h q k)))) h := by
  intro Q hq X hX hR
  obtain ⟨p1, p2, p3, p4, p5, p6, p7⟩ := hI.pr hq5
  show VW X 0 [some (mA (39 + q)), some (mI k)] [] h
  refine v_aload_n hX eX2_runsTwice_0 rfl ?_
  refine v_getI hX eX2_runsTwice_1 fi_X2_26 (OB_pr (by omega)) ?_
  refine v_iconst hX eX2_runsTwice_4 ?_
  refine v_icmp_ne hX eX2_runsTwice_5 (tgt := 40) rfl ⟨by omega, by omega⟩ ⟨by omega, by omega⟩ (fun c5 => ?_) (fun c5 => ?_)
  · refine v_iconst hX eX2_runsTwice_40 ?_
    exact v_zreturn hX hR eX2_runsTwice_41 rfl (by omega) (q_f (fun q => by have := q.1; omega) hq)
  · refine v_iload_n hX eX2_runsTwice_8 rfl ?_
    refine v_aload_n hX eX2_runsTwice_9 rfl ?_
    refine v_getI hX eX2_runsTwice_10 fi_X2_23 (OB_pr (by omega)) ?_
    refine v_icmp_le hX eX2_runsTwice_13 (tgt := 40) rfl ⟨by omega, by omega⟩ ⟨by omega, by omega⟩ (fun c13 => ?_) (fun c13 => ?_)
    · refine v_iconst hX eX2_runsTwice_40 ?_
      exact v_zreturn hX hR eX2_runsTwice_41 rfl (by omega) (q_f (fun q => by have := q.2.1; omega) hq)
    · refine v_iload_n hX eX2_runsTwice_16 rfl ?_
      refine v_iconst hX eX2_runsTwice_17 ?_
      refine v_aload_n hX eX2_runsTwice_18 rfl ?_
      refine v_getI hX eX2_runsTwice_19 fi_X2_19 (OB_pr (by omega)) ?_
      refine v_imul hX eX2_runsTwice_22 ?_
      refine v_icmp_lt hX eX2_runsTwice_23 (tgt := 40) rfl ⟨by omega, by omega⟩ ⟨by omega, by omega⟩ (fun c23 => ?_) (fun c23 => ?_)
      · refine v_iconst hX eX2_runsTwice_40 ?_
        exact v_zreturn hX hR eX2_runsTwice_41 rfl (by omega) (q_f (fun q => by have := q.2.2.1; omega) hq)
      · refine v_iload_n hX eX2_runsTwice_26 rfl ?_
        refine v_iconst hX eX2_runsTwice_27 ?_
        refine v_aload_n hX eX2_runsTwice_28 rfl ?_
        refine v_getI hX eX2_runsTwice_29 fi_X2_23 (OB_pr (by omega)) ?_
        refine v_imul hX eX2_runsTwice_32 ?_
        refine v_icmp_gt hX eX2_runsTwice_33 (tgt := 40) rfl ⟨by omega, by omega⟩ ⟨by omega, by omega⟩ (fun c33 => ?_) (fun c33 => ?_)
        · refine v_iconst hX eX2_runsTwice_40 ?_
          exact v_zreturn hX hR eX2_runsTwice_41 rfl (by omega) (q_f (fun q => by have := q.2.2.2; omega) hq)
        · refine v_iconst hX eX2_runsTwice_36 ?_
          refine v_goto hX eX2_runsTwice_37 (tgt := 41) rfl ?_
          exact v_zreturn hX hR eX2_runsTwice_41 rfl (by omega) (q_t ⟨by omega, by omega, by omega, by omega⟩ hq)
theorem irem2 : ∀ k : Nat, k < 9 → irem (k : Int) 2 = ((k : Int) % 2) := by decide +kernel
theorem irem2' {k : Int} (h : 0 ≤ k ∧ k ≤ 8) : irem k 2 = k % 2 := by
  have := irem2 k.toNat (by omega)
  rw [← cast_toNat' h.1] at this
  exact this
set_option maxHeartbeats 2000000 in
set_option maxRecDepth 20000 in
theorem c_X2_takes {d : Nat} {h : Hp} {q : Nat} {k : Int} (hI : RI h) (hq5 : q < 5) (hk : 0 ≤ k ∧ k ≤ 8) : Fn (d + 1) MX2_takes [mA (39 + q), mI k] h (some (mI (b01 (tks h q k)))) h := by
  intro Q hq X hX hR
  obtain ⟨p1, p2, p3, p4, p5, p6, p7⟩ := hI.pr hq5
  show VW X 0 [some (mA (39 + q)), some (mI k)] [] h
  refine v_aload_n hX eX2_takes_0 rfl ?_
  refine v_iload_n hX eX2_takes_1 rfl ?_
  refine v_fnV hX eX2_takes_2 lV_X2_15 ok_MX2_runsTwice (OB_pr (by omega)) rfl ⟨rfl, Nat.le_of_ble_eq_true rfl⟩ (Nat.le_of_ble_eq_true rfl) (c_X2_runsTwice hI hq5 hk) rfl ?_
  try simp only [Int.toNat_natCast, Int.toNat_zero, Int.reduceToNat]
  refine v_ifB_eq hX eX2_takes_5 (tgt := 10) rfl (fun c5 => ?_) (fun c5 => ?_)
  · refine v_iload_n hX eX2_takes_10 rfl ?_
    refine v_aload_n hX eX2_takes_11 rfl ?_
    refine v_getI hX eX2_takes_12 fi_X2_19 (OB_pr (by omega)) ?_
    refine v_icmp_lt hX eX2_takes_15 (tgt := 44) rfl ⟨by omega, by omega⟩ ⟨by omega, by omega⟩ (fun c15 => ?_) (fun c15 => ?_)
    · refine v_iconst hX eX2_takes_44 ?_
      exact v_zreturn hX hR eX2_takes_45 rfl (by omega) (q_f (fun q => q.elim c5 (fun q => by have := q.1; omega)) hq)
    · refine v_iload_n hX eX2_takes_18 rfl ?_
      refine v_aload_n hX eX2_takes_19 rfl ?_
      refine v_getI hX eX2_takes_20 fi_X2_23 (OB_pr (by omega)) ?_
      refine v_icmp_gt hX eX2_takes_23 (tgt := 44) rfl ⟨by omega, by omega⟩ ⟨by omega, by omega⟩ (fun c23 => ?_) (fun c23 => ?_)
      · refine v_iconst hX eX2_takes_44 ?_
        exact v_zreturn hX hR eX2_takes_45 rfl (by omega) (q_f (fun q => q.elim c5 (fun q => by have := q.2.1; omega)) hq)
      · refine v_aload_n hX eX2_takes_26 rfl ?_
        refine v_getI hX eX2_takes_27 fi_X2_26 (OB_pr (by omega)) ?_
        refine v_iconst hX eX2_takes_30 ?_
        refine v_icmp_ne hX eX2_takes_31 (tgt := 40) rfl ⟨by omega, by omega⟩ ⟨by omega, by omega⟩ (fun c31 => ?_) (fun c31 => ?_)
        · refine v_iconst hX eX2_takes_40 ?_
          refine v_goto hX eX2_takes_41 (tgt := 45) rfl ?_
          exact v_zreturn hX hR eX2_takes_45 rfl (by omega) (q_t (Or.inr ⟨by omega, by omega, Or.inl c31⟩) hq)
        · refine v_iload_n hX eX2_takes_34 rfl ?_
          refine v_iconst hX eX2_takes_35 ?_
          refine v_irem hX eX2_takes_36 ⟨by omega, by omega, by omega⟩ ?_
          rw [irem2' hk]
          refine v_if_ne hX eX2_takes_37 (tgt := 44) rfl ⟨by omega, by omega⟩ (fun c37 => ?_) (fun c37 => ?_)
          · refine v_iconst hX eX2_takes_44 ?_
            exact v_zreturn hX hR eX2_takes_45 rfl (by omega) (q_f (fun q => q.elim c5 (fun q => by have := q.2.2; omega)) hq)
          · refine v_iconst hX eX2_takes_40 ?_
            refine v_goto hX eX2_takes_41 (tgt := 45) rfl ?_
            exact v_zreturn hX hR eX2_takes_45 rfl (by omega) (q_t (Or.inr ⟨by omega, by omega, Or.inr (by omega)⟩) hq)
  · refine v_iconst hX eX2_takes_8 ?_
    exact v_zreturn hX hR eX2_takes_9 rfl (by omega) (q_t (Or.inl c5) hq)
set_option maxHeartbeats 2000000 in
set_option maxRecDepth 20000 in
theorem c_X2_lacksLeader {d : Nat} {h : Hp} {q g : Nat} (hI : RI h) (hq5 : q < 5) (hg : g < 256) : Fn d MX2_lacksLeader [mA (39 + q), mI g] h (some (mI (b01 (lkl h q g)))) h := by
  intro Q hq X hX hR
  obtain ⟨p1, p2, p3, p4, p5, p6, p7⟩ := hI.pr hq5
  show VW X 0 [some (mA (39 + q)), some (mI g)] [] h
  refine v_aload_n hX eX2_lacksLeader_0 rfl ?_
  refine v_getI hX eX2_lacksLeader_1 fi_X2_26 (OB_pr (by omega)) ?_
  refine v_iconst hX eX2_lacksLeader_4 ?_
  refine v_icmp_ne hX eX2_lacksLeader_5 (tgt := 23) rfl ⟨by omega, by omega⟩ ⟨by omega, by omega⟩ (fun c5 => ?_) (fun c5 => ?_)
  · refine v_iconst hX eX2_lacksLeader_23 ?_
    exact v_zreturn hX hR eX2_lacksLeader_24 rfl (by omega) (q_f (fun q => c5 q.1) hq)
  · have hl := p7 (by omega)
    refine v_iload_n hX eX2_lacksLeader_8 rfl ?_
    refine v_aload_n hX eX2_lacksLeader_9 rfl ?_
    refine v_getI hX eX2_lacksLeader_10 fi_X2_29 (OB_pr (by omega)) ?_
    refine v_ishr hX eX2_lacksLeader_13 ?_
    refine v_iconst hX eX2_lacksLeader_14 ?_
    refine v_iand hX eX2_lacksLeader_15 ?_
    rw [bitZ (s := (g : Int)) (by omega) (by omega)]
    rw [Int.toNat_natCast]
    refine v_ifB_ne hX eX2_lacksLeader_16 (tgt := 23) rfl (fun c16 => ?_) (fun c16 => ?_)
    · refine v_iconst hX eX2_lacksLeader_23 ?_
      exact v_zreturn hX hR eX2_lacksLeader_24 rfl (by omega) (q_f (fun q => q.2 c16) hq)
    · refine v_iconst hX eX2_lacksLeader_19 ?_
      refine v_goto hX eX2_lacksLeader_20 (tgt := 24) rfl ?_
      exact v_zreturn hX hR eX2_lacksLeader_24 rfl (by omega) (q_t ⟨by omega, c16⟩ hq)
/-! skills -/
def skB (h : Hp) (p b : Nat) : Bool := (h (23 + p) 1).toNat.testBit b
def neB (h : Hp) (q b : Nat) : Bool := (h (39 + q) 3).toNat.testBit b
def hasF (h : Hp) (g b : Nat) : Nat → Bool := fun p => g.testBit p && skB h p b
def had1 (h : Hp) (g i : Nat) : Nat := bs (fun b => decide (1 ≤ cntF (hasF h g b) i)) 8
def had2 (h : Hp) (g i : Nat) : Nat := bs (fun b => decide (2 ≤ cntF (hasF h g b) i)) 8
def lks (h : Hp) (q g : Nat) : Prop := ∃ b, b < 8 ∧ neB h q b = true ∧ ((rtw h q (bcnt g) ∧ cntF (hasF h g b) (h 1 3).toNat < 2) ∨ (¬ rtw h q (bcnt g) ∧ cntF (hasF h g b) (h 1 3).toNat < 1))
theorem had_f {h : Hp} {g i : Nat} (e : g.testBit i = false) : had1 h g (i + 1) = had1 h g i ∧ had2 h g (i + 1) = had2 h g i := by
  have : ∀ b, cntF (hasF h g b) (i + 1) = cntF (hasF h g b) i := fun b => by
    simp [cntF, hasF, e]
  simp only [had1, had2, this, and_self]
theorem had_t {h : Hp} {g i : Nat} (e : g.testBit i = true) (hs : (h (23 + i) 1).toNat < 256) : had1 h g (i + 1) = had1 h g i ||| (h (23 + i) 1).toNat ∧ had2 h g (i + 1) = had2 h g i ||| (had1 h g i &&& (h (23 + i) 1).toNat) := by
  have hc : ∀ b, cntF (hasF h g b) (i + 1) = cntF (hasF h g b) i + if (h (23 + i) 1).toNat.testBit b then 1 else 0 := fun b => by
    simp [cntF, hasF, e, skB]
  have l1 : had1 h g i < 256 := bs_lt _ 8
  have l2 : had2 h g i < 256 := bs_lt _ 8
  constructor
  · refine ext8 (bs_lt _ 8) (or_lt8 l1 hs) (fun b hb => ?_)
    rw [Nat.testBit_or, had1, had1, bs_bit, bs_bit, hc b]
    cases (h (23 + i) 1).toNat.testBit b <;> simp [hb]
  · refine ext8 (bs_lt _ 8) (or_lt8 l2 (and_lt8 l1)) (fun b hb => ?_)
    rw [Nat.testBit_or, Nat.testBit_and, had2, had2, had1, bs_bit, bs_bit, bs_bit, hc b]
    cases (h (23 + i) 1).toNat.testBit b
    · simp [hb]
    · simp only [hb, decide_true, Bool.true_and, if_true, Bool.and_true]
      rw [← Bool.decide_or]
      apply decide_eq_decide.mpr
      omega
set_option maxHeartbeats 2000000 in
set_option maxRecDepth 20000 in
theorem c_X4_lacksSkill {d : Nat} {h : Hp} {q g : Nat} (hI : RI h) (hq5 : q < 5) (hg : g < 256) : Fn (d + 1) MX4_lacksSkill [mA 1, mA (39 + q), mI g] h (some (mI (b01 (lks h q g)))) h := by
  intro Q hq X hX hR
  have hn := hI.n
  obtain ⟨p1, p2, p3, p4, p5, p6, p7⟩ := hI.pr hq5
  have hbc := bcnt_le g
  have fin : ∀ (t : Nat), t < 256 → (∀ b, b < 8 → (t.testBit b = true ↔ ((rtw h q (bcnt g) → 2 ≤ cntF (hasF h g b) (h 1 3).toNat) ∧ (¬ rtw h q (bcnt g) → 1 ≤ cntF (hasF h g b) (h 1 3).toNat)))) → VW X 79 [some (mA 1), some (mA (39 + q)), some (mI g), some (mI (had1 h g (h 1 3).toNat : Nat)), some (mI (had2 h g (h 1 3).toNat : Nat)), some (mI (h 1 3))] [mI t] h := by
    intro t ht ht2
    have e : band (h (39 + q) 3) (bxor t (-1)) = 0 ↔ ¬ lks h q g := by
      rw [cast_toNat' p4.1, band_not (by omega) ht]
      constructor
      · rintro a ⟨b, hb, h1, h2⟩
        have := (ht2 b hb).mp (a b hb h1)
        rcases h2 with ⟨h2, h3⟩ | ⟨h2, h3⟩
        · have := this.1 h2; omega
        · have := this.2 h2; omega
      · intro a b hb h1
        refine (ht2 b hb).mpr ⟨fun h2 => ?_, fun h2 => ?_⟩
        · exact Nat.le_of_not_lt (fun h3 => a ⟨b, hb, h1, Or.inl ⟨h2, by omega⟩⟩)
        · exact Nat.le_of_not_lt (fun h3 => a ⟨b, hb, h1, Or.inr ⟨h2, by omega⟩⟩)
    have er : rng (band (h (39 + q) 3) (bxor t (-1))) := by
      have := Int32.toInt_lt (Int32.ofInt (h (39 + q) 3) &&& Int32.ofInt (bxor t (-1)))
      have := Int32.le_toInt (Int32.ofInt (h (39 + q) 3) &&& Int32.ofInt (bxor t (-1)))
      unfold band
      constructor <;> omega
    refine v_istore hX eX4_lacksSkill_79 rfl rfl ?_
    refine v_aload_n hX eX4_lacksSkill_81 rfl ?_
    refine v_getI hX eX4_lacksSkill_82 fi_X4_48 (OB_pr (by omega)) ?_
    refine v_iload hX eX4_lacksSkill_85 rfl ?_
    refine v_iconst hX eX4_lacksSkill_87 ?_
    refine v_ixor hX eX4_lacksSkill_88 ?_
    refine v_iand hX eX4_lacksSkill_89 ?_
    refine v_if_eq hX eX4_lacksSkill_90 (tgt := 97) rfl er (fun c90 => ?_) (fun c90 => ?_)
    · refine v_iconst hX eX4_lacksSkill_97 ?_
      exact v_zreturn hX hR eX4_lacksSkill_98 rfl (by omega) (q_f (e.mp c90) hq)
    · refine v_iconst hX eX4_lacksSkill_93 ?_
      refine v_goto hX eX4_lacksSkill_94 (tgt := 98) rfl ?_
      exact v_zreturn hX hR eX4_lacksSkill_98 rfl (by omega) (q_t (Classical.byContradiction (fun z => c90 (e.mpr z))) hq)
  have loop : ∀ (i : Nat), i ≤ (h 1 3).toNat → VW X 8 [some (mA 1), some (mA (39 + q)), some (mI g), some (mI (had1 h g i : Nat)), some (mI (had2 h g i : Nat)), some (mI i)] [] h := by
    refine loop_up _ ?_ ?_
    · rw [← cast_toNat' hn.1]
      refine v_iload hX eX4_lacksSkill_8 rfl ?_
      refine v_aload_n hX eX4_lacksSkill_10 rfl ?_
      refine v_getI hX eX4_lacksSkill_11 fi_X4_29 ⟨by decide, rfl⟩ ?_
      refine v_icmp_ge hX eX4_lacksSkill_14 (tgt := 62) rfl ⟨by omega, by omega⟩ ⟨by omega, by omega⟩ (fun c14 => ?_) (fun c14 => False.elim ((by omega)))
      refine v_aload_n hX eX4_lacksSkill_62 rfl ?_
      refine v_iload_n hX eX4_lacksSkill_63 rfl ?_
      refine v_fnS hX eX4_lacksSkill_64 lS_X4_103 ok_MJ6_bitCount_0f7a4 ⟨rfl, Nat.le_of_ble_eq_true rfl⟩ (Nat.le_of_ble_eq_true rfl) (c_bitCount hg) rfl ?_
      try simp only [Int.toNat_natCast, Int.toNat_zero, Int.reduceToNat]
      refine v_fnV hX eX4_lacksSkill_67 lV_X4_119 ok_MX2_runsTwice (OB_pr (by omega)) rfl ⟨rfl, Nat.le_of_ble_eq_true rfl⟩ (Nat.le_of_ble_eq_true rfl) (c_X2_runsTwice hI hq5 (by omega)) rfl ?_
      try simp only [Int.toNat_natCast, Int.toNat_zero, Int.reduceToNat]
      refine v_ifB_eq hX eX4_lacksSkill_70 (tgt := 78) rfl (fun c70 => ?_) (fun c70 => ?_)
      · refine v_iload_n hX eX4_lacksSkill_78 rfl ?_
        refine fin _ (bs_lt _ 8) (fun b hb => ?_)
        rw [had1, bs_bit]
        simp [hb, c70]
      · refine v_iload hX eX4_lacksSkill_73 rfl ?_
        refine v_goto hX eX4_lacksSkill_75 (tgt := 79) rfl ?_
        refine fin _ (bs_lt _ 8) (fun b hb => ?_)
        rw [had2, bs_bit]
        simp [hb, c70]
    · intro i hi ih
      have hs := (hI.pu (p := i) (by omega)).1
      have l1 : had1 h g i < 256 := bs_lt _ 8
      have l2 : had2 h g i < 256 := bs_lt _ 8
      refine v_iload hX eX4_lacksSkill_8 rfl ?_
      refine v_aload_n hX eX4_lacksSkill_10 rfl ?_
      refine v_getI hX eX4_lacksSkill_11 fi_X4_29 ⟨by decide, rfl⟩ ?_
      refine v_icmp_ge hX eX4_lacksSkill_14 (tgt := 62) rfl ⟨by omega, by omega⟩ ⟨by omega, by omega⟩ (fun c14 => False.elim ((by omega))) (fun c14 => ?_)
      refine v_iload_n hX eX4_lacksSkill_17 rfl ?_
      refine v_iload hX eX4_lacksSkill_18 rfl ?_
      refine v_ishr hX eX4_lacksSkill_20 ?_
      refine v_iconst hX eX4_lacksSkill_21 ?_
      refine v_iand hX eX4_lacksSkill_22 ?_
      rw [bitB (by omega) (by omega)]
      refine v_ifB_eq hX eX4_lacksSkill_23 (tgt := 56) rfl (fun c23 => ?_) (fun c23 => ?_)
      · rw [(had_f (h := h) (by simpa using c23)).1, (had_f (h := h) (by simpa using c23)).2] at ih
        refine v_iinc hX eX4_lacksSkill_56 rfl rfl rfl ?_
        exact v_goto hX eX4_lacksSkill_59 (tgt := 8) rfl ih
      · refine v_iload hX eX4_lacksSkill_26 rfl ?_
        refine v_iload_n hX eX4_lacksSkill_28 rfl ?_
        refine v_aload_n hX eX4_lacksSkill_29 rfl ?_
        refine v_getA hX eX4_lacksSkill_30 fi_X4_11 ⟨by decide, rfl⟩ rfl ?_
        refine v_iload hX eX4_lacksSkill_33 rfl ?_
        refine v_aaldP hX eX4_lacksSkill_35 ⟨by decide, rfl⟩ ⟨by omega, by omega⟩ (RF_pu ⟨by omega, by omega⟩) ?_
        try simp only [Int.toNat_natCast, Int.toNat_zero, Int.reduceToNat]
        refine v_getI hX eX4_lacksSkill_36 fi_X4_33 (OB_pu (by omega)) ?_
        refine v_iand hX eX4_lacksSkill_39 ?_
        rw [band_z l1 hs]
        refine v_ior hX eX4_lacksSkill_40 ?_
        rw [bor_nat (by omega) (Nat.lt_trans (and_lt8 l1) (by decide))]
        refine v_istore hX eX4_lacksSkill_41 rfl rfl ?_
        refine v_iload_n hX eX4_lacksSkill_43 rfl ?_
        refine v_aload_n hX eX4_lacksSkill_44 rfl ?_
        refine v_getA hX eX4_lacksSkill_45 fi_X4_11 ⟨by decide, rfl⟩ rfl ?_
        refine v_iload hX eX4_lacksSkill_48 rfl ?_
        refine v_aaldP hX eX4_lacksSkill_50 ⟨by decide, rfl⟩ ⟨by omega, by omega⟩ (RF_pu ⟨by omega, by omega⟩) ?_
        try simp only [Int.toNat_natCast, Int.toNat_zero, Int.reduceToNat]
        refine v_getI hX eX4_lacksSkill_51 fi_X4_33 (OB_pu (by omega)) ?_
        refine v_ior hX eX4_lacksSkill_54 ?_
        rw [bor_z l1 hs]
        refine v_istore_n hX eX4_lacksSkill_55 rfl rfl ?_
        rw [(had_t c23 (by omega)).1, (had_t c23 (by omega)).2] at ih
        refine v_iinc hX eX4_lacksSkill_56 rfl rfl rfl ?_
        exact v_goto hX eX4_lacksSkill_59 (tgt := 8) rfl ih
  have l0 := loop 0 (by omega)
  rw [show had1 h g 0 = 0 from by simp [had1, cntF, bs], show had2 h g 0 = 0 from by simp [had2, cntF, bs]] at l0
  show VW X 0 [some (mA 1), some (mA (39 + q)), some (mI g), none, none, none] [] h
  refine v_iconst hX eX4_lacksSkill_0 ?_
  refine v_istore_n hX eX4_lacksSkill_1 rfl rfl ?_
  refine v_iconst hX eX4_lacksSkill_2 ?_
  refine v_istore hX eX4_lacksSkill_3 rfl rfl ?_
  refine v_iconst hX eX4_lacksSkill_5 ?_
  refine v_istore hX eX4_lacksSkill_6 rfl rfl ?_
  exact l0
