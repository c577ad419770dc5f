/-! groups of a PLAN, and what is WRONG with it -/
def PLI (h : Hp) : Prop := ∀ p, p < 8 → -1 ≤ h 4 p ∧ h 4 p < 5
def grp (h : Hp) (q : Int) : Nat := bs (fun p => decide (h 4 p = q)) (h 1 3).toNat
theorem grp_lt {h : Hp} (hI : RI h) (q : Int) : grp h q < 256 := bs_lt8 _ (by have := hI.n; omega)
set_option maxHeartbeats 2000000 in
set_option maxRecDepth 20000 in
theorem c_X4_groupOf {d : Nat} {h : Hp} {q : Int} (hI : RI h) (hL : PLI h) (hr : rng q) : Fn d MX4_groupOf [mA 1, mA 4, mI q] h (some (mI (grp h q : Nat))) h := by
  intro Q hq X hX hR
  have hn := hI.n
  show VW X 0 [some (mA 1), some (mA 4), some (mI q), none, none] [] h
  have loop : ∀ (i : Nat), i ≤ (h 1 3).toNat → VW X 5 [some (mA 1), some (mA 4), some (mI q), some (mI (bs (fun p => decide (h 4 p = q)) i : Nat)), some (mI i)] [] h := by
    refine loop_up _ ?_ ?_
    · refine v_iload hX eX4_groupOf_5 rfl ?_
      refine v_aload_n hX eX4_groupOf_7 rfl ?_
      refine v_getI hX eX4_groupOf_8 fi_X4_29 ⟨by decide, rfl⟩ ?_
      refine v_icmp_ge hX eX4_groupOf_11 (tgt := 35) rfl ⟨by omega, by omega⟩ ⟨by omega, by omega⟩ (fun c11 => ?_) (fun c11 => False.elim ((by omega)))
      refine v_iload_n hX eX4_groupOf_35 rfl ?_
      exact v_ireturn hX hR eX4_groupOf_36 rfl (hq)
    · intro i hi ih
      have hl := hL i (by omega)
      have hb := bs_lt8 (fun p => decide (h 4 p = q)) (n := i) (by omega)
      refine v_iload hX eX4_groupOf_5 rfl ?_
      refine v_aload_n hX eX4_groupOf_7 rfl ?_
      refine v_getI hX eX4_groupOf_8 fi_X4_29 ⟨by decide, rfl⟩ ?_
      refine v_icmp_ge hX eX4_groupOf_11 (tgt := 35) rfl ⟨by omega, by omega⟩ ⟨by omega, by omega⟩ (fun c11 => False.elim ((by omega))) (fun c11 => ?_)
      refine v_aload_n hX eX4_groupOf_14 rfl ?_
      refine v_iload hX eX4_groupOf_15 rfl ?_
      refine v_iald hX eX4_groupOf_17 (by first | exact ⟨by decide, rfl⟩ | exact AR_rk (by omega)) ⟨by omega, by omega⟩ ?_
      try simp only [Int.toNat_natCast, Int.toNat_zero, Int.reduceToNat]
      refine v_iload_n hX eX4_groupOf_18 rfl ?_
      refine v_icmp_ne hX eX4_groupOf_19 (tgt := 29) rfl ⟨by omega, by omega⟩ ⟨by omega, by omega⟩ (fun c19 => ?_) (fun c19 => ?_)
      · rw [bs, if_neg (by simpa using c19), Nat.or_zero] at ih
        refine v_iinc hX eX4_groupOf_29 rfl rfl rfl ?_
        exact v_goto hX eX4_groupOf_32 (tgt := 5) rfl ih
      · refine v_iload_n hX eX4_groupOf_22 rfl ?_
        refine v_iconst hX eX4_groupOf_23 ?_
        refine v_iload hX eX4_groupOf_24 rfl ?_
        refine v_ishl hX eX4_groupOf_26 ?_
        refine v_ior hX eX4_groupOf_27 ?_
        rw [wb_put hb (by omega)]
        refine v_istore_n hX eX4_groupOf_28 rfl rfl ?_
        rw [bs, if_pos (by simpa using c19)] at ih
        refine v_iinc hX eX4_groupOf_29 rfl rfl rfl ?_
        exact v_goto hX eX4_groupOf_32 (tgt := 5) rfl ih
  refine v_iconst hX eX4_groupOf_0 ?_
  refine v_istore_n hX eX4_groupOf_1 rfl rfl ?_
  refine v_iconst hX eX4_groupOf_2 ?_
  refine v_istore hX eX4_groupOf_3 rfl rfl ?_
  exact loop 0 (by omega)
def ghas (h : Hp) (f : Int) (q g : Nat) : Prop := g ≠ 0 ∧ ((f = 3 ∧ h (39 + q) 5 = 0) ∨ (f = 4 ∧ ¬ tks h q (bcnt g)) ∨ (f = 5 ∧ lkl h q g) ∨ (f = 6 ∧ lks h q g))
set_option maxHeartbeats 2000000 in
set_option maxRecDepth 20000 in
theorem c_X4_groupHas {d : Nat} {h : Hp} {f q : Int} {g : Nat} (hI : RI h) (hf : 3 ≤ f ∧ f ≤ 6) (hq5 : 0 ≤ q ∧ q < 5) (hg : g < 256) : Fn (d + 2) MX4_groupHas [mA 1, mI f, mI q, mI g] h (some (mI (b01 (ghas h f q.toNat g)))) h := by
  intro Q hq X hX hR
  have hbc := bcnt_le g
  have p6 := (hI.pr (p := q.toNat) (by omega)).2.2.2.2.2.1
  have hz : ∀ (_ : g = 0), Q (some (mI 0)) h := fun e => q_f (fun z => z.1 e) hq
  show VW X 0 [some (mA 1), some (mI f), some (mI q), some (mI g), none] [] h
  rcases (show f = 3 ∨ f = 4 ∨ f = 5 ∨ f = 6 by omega) with rfl | rfl | rfl | rfl
  · refine v_aload_n hX eX4_groupHas_0 rfl ?_
    refine v_getA hX eX4_groupHas_1 fi_X4_19 ⟨by decide, rfl⟩ rfl ?_
    refine v_iload_n hX eX4_groupHas_4 rfl ?_
    refine v_aaldQ hX eX4_groupHas_5 ⟨by decide, rfl⟩ ⟨by omega, by omega⟩ (RF_pr ⟨by omega, by omega⟩) ?_
    try simp only [Int.toNat_natCast, Int.toNat_zero, Int.reduceToNat]
    refine v_astore hX eX4_groupHas_6 rfl rfl ?_
    refine v_iload_n hX eX4_groupHas_8 rfl ?_
    refine v_if_ne hX eX4_groupHas_9 (tgt := 14) rfl ⟨by omega, by omega⟩ (fun c9 => ?_) (fun c9 => ?_)
    · refine v_iload_n hX eX4_groupHas_14 rfl ?_
      refine v_tsw hX eX4_groupHas_15 (tgt := 40) (by decide) (by decide) ?_
      refine v_aload hX eX4_groupHas_40 rfl ?_
      refine v_getZ hX eX4_groupHas_42 fi_X4_73 (OB_pr (by omega)) ?_
      refine v_if_ne hX eX4_groupHas_45 (tgt := 52) rfl ⟨by omega, by omega⟩ (fun c45 => ?_) (fun c45 => ?_)
      · refine v_iconst hX eX4_groupHas_52 ?_
        exact v_zreturn hX hR eX4_groupHas_53 rfl (by omega) (q_f (fun z => z.2.elim (fun y => c45 y.2) (fun y => y.elim (fun y => absurd y.1 (by decide)) (fun y => y.elim (fun y => absurd y.1 (by decide)) (fun y => absurd y.1 (by decide))))) hq)
      · refine v_iconst hX eX4_groupHas_48 ?_
        refine v_goto hX eX4_groupHas_49 (tgt := 53) rfl ?_
        exact v_zreturn hX hR eX4_groupHas_53 rfl (by omega) (q_t ⟨by omega, Or.inl ⟨rfl, by omega⟩⟩ hq)
    · refine v_iconst hX eX4_groupHas_12 ?_
      exact v_zreturn hX hR eX4_groupHas_13 rfl (by omega) (hz (by omega))
  · refine v_aload_n hX eX4_groupHas_0 rfl ?_
    refine v_getA hX eX4_groupHas_1 fi_X4_19 ⟨by decide, rfl⟩ rfl ?_
    refine v_iload_n hX eX4_groupHas_4 rfl ?_
    refine v_aaldQ hX eX4_groupHas_5 ⟨by decide, rfl⟩ ⟨by omega, by omega⟩ (RF_pr ⟨by omega, by omega⟩) ?_
    try simp only [Int.toNat_natCast, Int.toNat_zero, Int.reduceToNat]
    refine v_astore hX eX4_groupHas_6 rfl rfl ?_
    refine v_iload_n hX eX4_groupHas_8 rfl ?_
    refine v_if_ne hX eX4_groupHas_9 (tgt := 14) rfl ⟨by omega, by omega⟩ (fun c9 => ?_) (fun c9 => ?_)
    · refine v_iload_n hX eX4_groupHas_14 rfl ?_
      refine v_tsw hX eX4_groupHas_15 (tgt := 54) (by decide) (by decide) ?_
      refine v_aload hX eX4_groupHas_54 rfl ?_
      refine v_iload_n hX eX4_groupHas_56 rfl ?_
      refine v_fnS hX eX4_groupHas_57 lS_X4_103 ok_MJ6_bitCount_0f7a4 ⟨rfl, Nat.le_of_ble_eq_true rfl⟩ (Nat.le_of_ble_eq_true rfl) (c_bitCount hg) rfl ?_
      try simp only [Int.toNat_natCast, Int.toNat_zero, Int.reduceToNat]
      refine v_fnV hX eX4_groupHas_60 lV_X4_109 ok_MX2_takes (OB_pr (by omega)) rfl ⟨rfl, Nat.le_of_ble_eq_true rfl⟩ (Nat.le_of_ble_eq_true rfl) (c_X2_takes hI (by omega) (by omega)) rfl ?_
      try simp only [Int.toNat_natCast, Int.toNat_zero, Int.reduceToNat]
      refine v_ifB_ne hX eX4_groupHas_63 (tgt := 70) rfl (fun c63 => ?_) (fun c63 => ?_)
      · refine v_iconst hX eX4_groupHas_70 ?_
        exact v_zreturn hX hR eX4_groupHas_71 rfl (by omega) (q_f (fun z => z.2.elim (fun y => absurd y.1 (by decide)) (fun y => y.elim (fun y => y.2 c63) (fun y => y.elim (fun y => absurd y.1 (by decide)) (fun y => absurd y.1 (by decide))))) hq)
      · refine v_iconst hX eX4_groupHas_66 ?_
        refine v_goto hX eX4_groupHas_67 (tgt := 71) rfl ?_
        exact v_zreturn hX hR eX4_groupHas_71 rfl (by omega) (q_t ⟨by omega, Or.inr (Or.inl ⟨rfl, c63⟩)⟩ hq)
    · refine v_iconst hX eX4_groupHas_12 ?_
      exact v_zreturn hX hR eX4_groupHas_13 rfl (by omega) (hz (by omega))
  · refine v_aload_n hX eX4_groupHas_0 rfl ?_
    refine v_getA hX eX4_groupHas_1 fi_X4_19 ⟨by decide, rfl⟩ rfl ?_
    refine v_iload_n hX eX4_groupHas_4 rfl ?_
    refine v_aaldQ hX eX4_groupHas_5 ⟨by decide, rfl⟩ ⟨by omega, by omega⟩ (RF_pr ⟨by omega, by omega⟩) ?_
    try simp only [Int.toNat_natCast, Int.toNat_zero, Int.reduceToNat]
    refine v_astore hX eX4_groupHas_6 rfl rfl ?_
    refine v_iload_n hX eX4_groupHas_8 rfl ?_
    refine v_if_ne hX eX4_groupHas_9 (tgt := 14) rfl ⟨by omega, by omega⟩ (fun c9 => ?_) (fun c9 => ?_)
    · refine v_iload_n hX eX4_groupHas_14 rfl ?_
      refine v_tsw hX eX4_groupHas_15 (tgt := 72) (by decide) (by decide) ?_
      refine v_aload hX eX4_groupHas_72 rfl ?_
      refine v_iload_n hX eX4_groupHas_74 rfl ?_
      refine v_fnV hX eX4_groupHas_75 lV_X4_112 ok_MX2_lacksLeader (OB_pr (by omega)) rfl ⟨rfl, Nat.le_of_ble_eq_true rfl⟩ (Nat.le_of_ble_eq_true rfl) (c_X2_lacksLeader hI (by omega) hg) rfl ?_
      try simp only [Int.toNat_natCast, Int.toNat_zero, Int.reduceToNat]
      exact v_zreturn hX hR eX4_groupHas_78 rfl (b01_or _) (q_i (b01_iff ⟨fun z => z.2.elim (fun y => absurd y.1 (by decide)) (fun y => y.elim (fun y => absurd y.1 (by decide)) (fun y => y.elim (fun y => y.2) (fun y => absurd y.1 (by decide)))), fun y => ⟨by omega, Or.inr (Or.inr (Or.inl ⟨rfl, y⟩))⟩⟩) hq)
    · refine v_iconst hX eX4_groupHas_12 ?_
      exact v_zreturn hX hR eX4_groupHas_13 rfl (by omega) (hz (by omega))
  · refine v_aload_n hX eX4_groupHas_0 rfl ?_
    refine v_getA hX eX4_groupHas_1 fi_X4_19 ⟨by decide, rfl⟩ rfl ?_
    refine v_iload_n hX eX4_groupHas_4 rfl ?_
    refine v_aaldQ hX eX4_groupHas_5 ⟨by decide, rfl⟩ ⟨by omega, by omega⟩ (RF_pr ⟨by omega, by omega⟩) ?_
    try simp only [Int.toNat_natCast, Int.toNat_zero, Int.reduceToNat]
    refine v_astore hX eX4_groupHas_6 rfl rfl ?_
    refine v_iload_n hX eX4_groupHas_8 rfl ?_
    refine v_if_ne hX eX4_groupHas_9 (tgt := 14) rfl ⟨by omega, by omega⟩ (fun c9 => ?_) (fun c9 => ?_)
    · refine v_iload_n hX eX4_groupHas_14 rfl ?_
      refine v_tswD hX eX4_groupHas_15 (tgt := 79) (by decide) rfl ?_
      refine v_aload_n hX eX4_groupHas_79 rfl ?_
      refine v_aload hX eX4_groupHas_80 rfl ?_
      refine v_iload_n hX eX4_groupHas_82 rfl ?_
      refine v_fnV hX eX4_groupHas_83 lV_X4_115 ok_MX4_lacksSkill ⟨by decide, rfl⟩ rfl ⟨rfl, Nat.le_of_ble_eq_true rfl⟩ (Nat.le_of_ble_eq_true rfl) (c_X4_lacksSkill hI (by omega) hg) rfl ?_
      try simp only [Int.toNat_natCast, Int.toNat_zero, Int.reduceToNat]
      exact v_zreturn hX hR eX4_groupHas_86 rfl (b01_or _) (q_i (b01_iff ⟨fun z => z.2.elim (fun y => absurd y.1 (by decide)) (fun y => y.elim (fun y => absurd y.1 (by decide)) (fun y => y.elim (fun y => absurd y.1 (by decide)) (fun y => y.2))), fun y => ⟨by omega, Or.inr (Or.inr (Or.inr ⟨rfl, y⟩))⟩⟩) hq)
    · refine v_iconst hX eX4_groupHas_12 ?_
      exact v_zreturn hX hR eX4_groupHas_13 rfl (by omega) (hz (by omega))
def jhas (h : Hp) (f : Int) (q : Nat) : Prop := ghas h f q (grp h q)
def phas (h : Hp) (f : Int) (p : Nat) : Prop := (f = 1 ∧ h (23 + p) 6 = 1 ∧ h 4 p = -1) ∨ (f = 2 ∧ h (23 + p) 6 = 0 ∧ h 4 p ≠ -1) ∨ (f = 7 ∧ h 4 p ≠ -1 ∧ ∃ b, b < 8 ∧ apB h p b = true ∧ (grp h (h 4 p)).testBit b = true)
set_option maxHeartbeats 2000000 in
set_option maxRecDepth 20000 in
theorem c_X4_pupilHas {d : Nat} {h : Hp} {f p : Int} (hI : RI h) (hL : PLI h) (hf : f = 1 ∨ f = 2 ∨ f = 7) (hp : inN h p) : Fn (d + 1) MX4_pupilHas [mA 1, mI f, mI p, mA 4] h (some (mI (b01 (phas h f p.toNat)))) h := by
  intro Q hq X hX hR
  have hp8 := hp.lt hI
  have hl := hL p.toNat (by omega)
  have hz := (hI.pu (p := p.toNat) (by omega)).2.2.2.2.2.1
  have ha := (hI.pu (p := p.toNat) (by omega)).2.2.2.2.1
  show VW X 0 [some (mA 1), some (mI f), some (mI p), some (mA 4), none, none] [] h
  rcases hf with rfl | rfl | rfl
  · refine v_aload_n hX eX4_pupilHas_0 rfl ?_
    refine v_getA hX eX4_pupilHas_1 fi_X4_11 ⟨by decide, rfl⟩ rfl ?_
    refine v_iload_n hX eX4_pupilHas_4 rfl ?_
    refine v_aaldP hX eX4_pupilHas_5 ⟨by decide, rfl⟩ ⟨by omega, by omega⟩ (RF_pu ⟨by omega, by omega⟩) ?_
    try simp only [Int.toNat_natCast, Int.toNat_zero, Int.reduceToNat]
    refine v_astore hX eX4_pupilHas_6 rfl rfl ?_
    refine v_aload_n hX eX4_pupilHas_8 rfl ?_
    refine v_iload_n hX eX4_pupilHas_9 rfl ?_
    refine v_iald hX eX4_pupilHas_10 (by first | exact ⟨by decide, rfl⟩ | exact AR_rk (by omega)) ⟨by omega, by omega⟩ ?_
    try simp only [Int.toNat_natCast, Int.toNat_zero, Int.reduceToNat]
    refine v_iconst hX eX4_pupilHas_11 ?_
    refine v_icmp_eq hX eX4_pupilHas_12 (tgt := 19) rfl ⟨by omega, by omega⟩ ⟨by omega, by omega⟩ (fun c12 => ?_) (fun c12 => ?_)
    · refine v_iconst hX eX4_pupilHas_19 ?_
      refine v_istore hX eX4_pupilHas_20 rfl rfl ?_
      refine v_iload_n hX eX4_pupilHas_22 rfl ?_
      refine v_lsw hX eX4_pupilHas_23 (tgt := 48) (by decide) (by decide) ?_
      refine v_aload hX eX4_pupilHas_48 rfl ?_
      refine v_getZ hX eX4_pupilHas_50 fi_X4_69 (OB_pu (by omega)) ?_
      refine v_if_eq hX eX4_pupilHas_53 (tgt := 65) rfl ⟨by omega, by omega⟩ (fun c53 => ?_) (fun c53 => ?_)
      · refine v_iconst hX eX4_pupilHas_65 ?_
        exact v_zreturn hX hR eX4_pupilHas_66 rfl (by omega) (q_f (fun z => z.elim (fun y => by omega) (fun y => y.elim (fun y => absurd y.1 (by decide)) (fun y => absurd y.1 (by decide)))) hq)
      · refine v_iload hX eX4_pupilHas_56 rfl ?_
        refine v_if_ne hX eX4_pupilHas_58 (tgt := 65) rfl ⟨by omega, by omega⟩ (fun c58 => False.elim ((by omega))) (fun c58 => ?_)
        refine v_iconst hX eX4_pupilHas_61 ?_
        refine v_goto hX eX4_pupilHas_62 (tgt := 66) rfl ?_
        exact v_zreturn hX hR eX4_pupilHas_66 rfl (by omega) (q_t (Or.inl ⟨rfl, by omega, by omega⟩) hq)
    · refine v_iconst hX eX4_pupilHas_15 ?_
      refine v_goto hX eX4_pupilHas_16 (tgt := 20) rfl ?_
      refine v_istore hX eX4_pupilHas_20 rfl rfl ?_
      refine v_iload_n hX eX4_pupilHas_22 rfl ?_
      refine v_lsw hX eX4_pupilHas_23 (tgt := 48) (by decide) (by decide) ?_
      refine v_aload hX eX4_pupilHas_48 rfl ?_
      refine v_getZ hX eX4_pupilHas_50 fi_X4_69 (OB_pu (by omega)) ?_
      refine v_if_eq hX eX4_pupilHas_53 (tgt := 65) rfl ⟨by omega, by omega⟩ (fun c53 => ?_) (fun c53 => ?_)
      · refine v_iconst hX eX4_pupilHas_65 ?_
        exact v_zreturn hX hR eX4_pupilHas_66 rfl (by omega) (q_f (fun z => z.elim (fun y => by omega) (fun y => y.elim (fun y => absurd y.1 (by decide)) (fun y => absurd y.1 (by decide)))) hq)
      · refine v_iload hX eX4_pupilHas_56 rfl ?_
        refine v_if_ne hX eX4_pupilHas_58 (tgt := 65) rfl ⟨by omega, by omega⟩ (fun c58 => ?_) (fun c58 => False.elim ((by omega)))
        refine v_iconst hX eX4_pupilHas_65 ?_
        exact v_zreturn hX hR eX4_pupilHas_66 rfl (by omega) (q_f (fun z => z.elim (fun y => by omega) (fun y => y.elim (fun y => absurd y.1 (by decide)) (fun y => absurd y.1 (by decide)))) hq)
  · refine v_aload_n hX eX4_pupilHas_0 rfl ?_
    refine v_getA hX eX4_pupilHas_1 fi_X4_11 ⟨by decide, rfl⟩ rfl ?_
    refine v_iload_n hX eX4_pupilHas_4 rfl ?_
    refine v_aaldP hX eX4_pupilHas_5 ⟨by decide, rfl⟩ ⟨by omega, by omega⟩ (RF_pu ⟨by omega, by omega⟩) ?_
    try simp only [Int.toNat_natCast, Int.toNat_zero, Int.reduceToNat]
    refine v_astore hX eX4_pupilHas_6 rfl rfl ?_
    refine v_aload_n hX eX4_pupilHas_8 rfl ?_
    refine v_iload_n hX eX4_pupilHas_9 rfl ?_
    refine v_iald hX eX4_pupilHas_10 (by first | exact ⟨by decide, rfl⟩ | exact AR_rk (by omega)) ⟨by omega, by omega⟩ ?_
    try simp only [Int.toNat_natCast, Int.toNat_zero, Int.reduceToNat]
    refine v_iconst hX eX4_pupilHas_11 ?_
    refine v_icmp_eq hX eX4_pupilHas_12 (tgt := 19) rfl ⟨by omega, by omega⟩ ⟨by omega, by omega⟩ (fun c12 => ?_) (fun c12 => ?_)
    · refine v_iconst hX eX4_pupilHas_19 ?_
      refine v_istore hX eX4_pupilHas_20 rfl rfl ?_
      refine v_iload_n hX eX4_pupilHas_22 rfl ?_
      refine v_lsw hX eX4_pupilHas_23 (tgt := 67) (by decide) (by decide) ?_
      refine v_aload hX eX4_pupilHas_67 rfl ?_
      refine v_getZ hX eX4_pupilHas_69 fi_X4_69 (OB_pu (by omega)) ?_
      refine v_if_ne hX eX4_pupilHas_72 (tgt := 84) rfl ⟨by omega, by omega⟩ (fun c72 => ?_) (fun c72 => ?_)
      · refine v_iconst hX eX4_pupilHas_84 ?_
        exact v_zreturn hX hR eX4_pupilHas_85 rfl (by omega) (q_f (fun z => z.elim (fun y => absurd y.1 (by decide)) (fun y => y.elim (fun y => by omega) (fun y => absurd y.1 (by decide)))) hq)
      · refine v_iload hX eX4_pupilHas_75 rfl ?_
        refine v_if_eq hX eX4_pupilHas_77 (tgt := 84) rfl ⟨by omega, by omega⟩ (fun c77 => ?_) (fun c77 => False.elim ((by omega)))
        refine v_iconst hX eX4_pupilHas_84 ?_
        exact v_zreturn hX hR eX4_pupilHas_85 rfl (by omega) (q_f (fun z => z.elim (fun y => absurd y.1 (by decide)) (fun y => y.elim (fun y => by omega) (fun y => absurd y.1 (by decide)))) hq)
    · refine v_iconst hX eX4_pupilHas_15 ?_
      refine v_goto hX eX4_pupilHas_16 (tgt := 20) rfl ?_
      refine v_istore hX eX4_pupilHas_20 rfl rfl ?_
      refine v_iload_n hX eX4_pupilHas_22 rfl ?_
      refine v_lsw hX eX4_pupilHas_23 (tgt := 67) (by decide) (by decide) ?_
      refine v_aload hX eX4_pupilHas_67 rfl ?_
      refine v_getZ hX eX4_pupilHas_69 fi_X4_69 (OB_pu (by omega)) ?_
      refine v_if_ne hX eX4_pupilHas_72 (tgt := 84) rfl ⟨by omega, by omega⟩ (fun c72 => ?_) (fun c72 => ?_)
      · refine v_iconst hX eX4_pupilHas_84 ?_
        exact v_zreturn hX hR eX4_pupilHas_85 rfl (by omega) (q_f (fun z => z.elim (fun y => absurd y.1 (by decide)) (fun y => y.elim (fun y => by omega) (fun y => absurd y.1 (by decide)))) hq)
      · refine v_iload hX eX4_pupilHas_75 rfl ?_
        refine v_if_eq hX eX4_pupilHas_77 (tgt := 84) rfl ⟨by omega, by omega⟩ (fun c77 => False.elim ((by omega))) (fun c77 => ?_)
        refine v_iconst hX eX4_pupilHas_80 ?_
        refine v_goto hX eX4_pupilHas_81 (tgt := 85) rfl ?_
        exact v_zreturn hX hR eX4_pupilHas_85 rfl (by omega) (q_t (Or.inr (Or.inl ⟨rfl, by omega, by omega⟩)) hq)
  · refine v_aload_n hX eX4_pupilHas_0 rfl ?_
    refine v_getA hX eX4_pupilHas_1 fi_X4_11 ⟨by decide, rfl⟩ rfl ?_
    refine v_iload_n hX eX4_pupilHas_4 rfl ?_
    refine v_aaldP hX eX4_pupilHas_5 ⟨by decide, rfl⟩ ⟨by omega, by omega⟩ (RF_pu ⟨by omega, by omega⟩) ?_
    try simp only [Int.toNat_natCast, Int.toNat_zero, Int.reduceToNat]
    refine v_astore hX eX4_pupilHas_6 rfl rfl ?_
    refine v_aload_n hX eX4_pupilHas_8 rfl ?_
    refine v_iload_n hX eX4_pupilHas_9 rfl ?_
    refine v_iald hX eX4_pupilHas_10 (by first | exact ⟨by decide, rfl⟩ | exact AR_rk (by omega)) ⟨by omega, by omega⟩ ?_
    try simp only [Int.toNat_natCast, Int.toNat_zero, Int.reduceToNat]
    refine v_iconst hX eX4_pupilHas_11 ?_
    refine v_icmp_eq hX eX4_pupilHas_12 (tgt := 19) rfl ⟨by omega, by omega⟩ ⟨by omega, by omega⟩ (fun c12 => ?_) (fun c12 => ?_)
    · refine v_iconst hX eX4_pupilHas_19 ?_
      refine v_istore hX eX4_pupilHas_20 rfl rfl ?_
      refine v_iload_n hX eX4_pupilHas_22 rfl ?_
      refine v_lsw hX eX4_pupilHas_23 (tgt := 86) (by decide) (by decide) ?_
      refine v_iload hX eX4_pupilHas_86 rfl ?_
      refine v_if_eq hX eX4_pupilHas_88 (tgt := 112) rfl ⟨by omega, by omega⟩ (fun c88 => ?_) (fun c88 => False.elim ((by omega)))
      refine v_iconst hX eX4_pupilHas_112 ?_
      exact v_zreturn hX hR eX4_pupilHas_113 rfl (by omega) (q_f (fun z => z.elim (fun y => absurd y.1 (by decide)) (fun y => y.elim (fun y => absurd y.1 (by decide)) (fun y => y.2.1 (by omega)))) hq)
    · refine v_iconst hX eX4_pupilHas_15 ?_
      refine v_goto hX eX4_pupilHas_16 (tgt := 20) rfl ?_
      refine v_istore hX eX4_pupilHas_20 rfl rfl ?_
      refine v_iload_n hX eX4_pupilHas_22 rfl ?_
      refine v_lsw hX eX4_pupilHas_23 (tgt := 86) (by decide) (by decide) ?_
      refine v_iload hX eX4_pupilHas_86 rfl ?_
      refine v_if_eq hX eX4_pupilHas_88 (tgt := 112) rfl ⟨by omega, by omega⟩ (fun c88 => False.elim ((by omega))) (fun c88 => ?_)
      refine v_aload hX eX4_pupilHas_91 rfl ?_
      refine v_getI hX eX4_pupilHas_93 fi_X4_92 (OB_pu (by omega)) ?_
      refine v_aload_n hX eX4_pupilHas_96 rfl ?_
      refine v_aload_n hX eX4_pupilHas_97 rfl ?_
      refine v_aload_n hX eX4_pupilHas_98 rfl ?_
      refine v_iload_n hX eX4_pupilHas_99 rfl ?_
      refine v_iald hX eX4_pupilHas_100 (by first | exact ⟨by decide, rfl⟩ | exact AR_rk (by omega)) ⟨by omega, by omega⟩ ?_
      try simp only [Int.toNat_natCast, Int.toNat_zero, Int.reduceToNat]
      refine v_fnV hX eX4_pupilHas_101 lV_X4_95 ok_MX4_groupOf ⟨by decide, rfl⟩ rfl ⟨rfl, Nat.le_of_ble_eq_true rfl⟩ (Nat.le_of_ble_eq_true rfl) (c_X4_groupOf hI hL ⟨by omega, by omega⟩) rfl ?_
      try simp only [Int.toNat_natCast, Int.toNat_zero, Int.reduceToNat]
      refine v_iand hX eX4_pupilHas_104 ?_
      refine v_if_eq hX eX4_pupilHas_105 (tgt := 112) rfl (band_rng _ _) (fun c105 => ?_) (fun c105 => ?_)
      · refine v_iconst hX eX4_pupilHas_112 ?_
        exact v_zreturn hX hR eX4_pupilHas_113 rfl (by omega) (q_f (fun z => z.elim (fun y => absurd y.1 (by decide)) (fun y => y.elim (fun y => absurd y.1 (by decide)) (fun y => by obtain ⟨-, -, b, hb, h1, h2⟩ := y; exact absurd h2 (by rw [(band_none ha (grp_lt hI _)).mp c105 b hb h1]; decide)))) hq)
      · refine v_iconst hX eX4_pupilHas_108 ?_
        refine v_goto hX eX4_pupilHas_109 (tgt := 113) rfl ?_
        exact v_zreturn hX hR eX4_pupilHas_113 rfl (by omega) (q_t (Or.inr (Or.inr ⟨rfl, by omega, Classical.byContradiction (fun z => c105 ((band_none ha (grp_lt hI _)).mpr (fun b hb h1 => by cases h2 : (grp h (h 4 p.toNat)).testBit b; rfl; exact absurd ⟨b, hb, h1, h2⟩ z)))⟩)) hq)
set_option maxHeartbeats 2000000 in
set_option maxRecDepth 20000 in
theorem c_X4_firstPupilWith {d : Nat} {h : Hp} {f : Int} (hI : RI h) (hL : PLI h) (hf : f = 1 ∨ f = 2 ∨ f = 7) : Fn (d + 2) MX4_firstPupilWith [mA 1, mI f, mA 4] h (some (mI (firstI (phas h f) (h 1 3).toNat 0))) h := by
  intro Q hq X hX hR
  have hn := hI.n
  show VW X 0 [some (mA 1), some (mI f), some (mA 4), none] [] h
  have loop : ∀ (k i : Nat), i + k = (h 1 3).toNat → Q (some (mI (firstI (phas h f) k i))) h → VW X 2 [some (mA 1), some (mI f), some (mA 4), some (mI i)] [] h := by
    intro k
    induction k with
    | zero =>
      intro i hi hq
      refine v_iload_n hX eX4_firstPupilWith_2 rfl ?_
      refine v_aload_n hX eX4_firstPupilWith_3 rfl ?_
      refine v_getI hX eX4_firstPupilWith_4 fi_X4_29 ⟨by decide, rfl⟩ ?_
      refine v_icmp_ge hX eX4_firstPupilWith_7 (tgt := 28) rfl ⟨by omega, by omega⟩ ⟨by omega, by omega⟩ (fun c7 => ?_) (fun c7 => False.elim ((by omega)))
      refine v_iconst hX eX4_firstPupilWith_28 ?_
      exact v_ireturn hX hR eX4_firstPupilWith_29 rfl (hq)
    | succ k ih =>
      intro i hi hq
      refine v_iload_n hX eX4_firstPupilWith_2 rfl ?_
      refine v_aload_n hX eX4_firstPupilWith_3 rfl ?_
      refine v_getI hX eX4_firstPupilWith_4 fi_X4_29 ⟨by decide, rfl⟩ ?_
      refine v_icmp_ge hX eX4_firstPupilWith_7 (tgt := 28) rfl ⟨by omega, by omega⟩ ⟨by omega, by omega⟩ (fun c7 => False.elim ((by omega))) (fun c7 => ?_)
      refine v_aload_n hX eX4_firstPupilWith_10 rfl ?_
      refine v_iload_n hX eX4_firstPupilWith_11 rfl ?_
      refine v_iload_n hX eX4_firstPupilWith_12 rfl ?_
      refine v_aload_n hX eX4_firstPupilWith_13 rfl ?_
      refine v_fnV hX eX4_firstPupilWith_14 lV_X4_88 ok_MX4_pupilHas ⟨by decide, rfl⟩ rfl ⟨rfl, Nat.le_of_ble_eq_true rfl⟩ (Nat.le_of_ble_eq_true rfl) (c_X4_pupilHas hI hL hf ⟨by omega, by omega⟩) rfl ?_
      try simp only [Int.toNat_natCast, Int.toNat_zero, Int.reduceToNat]
      refine v_ifB_eq hX eX4_firstPupilWith_17 (tgt := 22) rfl (fun c17 => ?_) (fun c17 => ?_)
      · rw [firstI_f c17] at hq
        refine v_iinc hX eX4_firstPupilWith_22 rfl rfl rfl ?_
        exact v_goto hX eX4_firstPupilWith_25 (tgt := 2) rfl (ih (i + 1) (by omega) hq)
      · refine v_iload_n hX eX4_firstPupilWith_20 rfl ?_
        exact v_ireturn hX hR eX4_firstPupilWith_21 rfl (q_i (firstI_t c17) hq)
  refine v_iconst hX eX4_firstPupilWith_0 ?_
  refine v_istore_n hX eX4_firstPupilWith_1 rfl rfl ?_
  exact loop _ 0 (by omega) hq
set_option maxHeartbeats 2000000 in
set_option maxRecDepth 20000 in
theorem c_X4_firstProjectWith {d : Nat} {h : Hp} {f : Int} (hI : RI h) (hL : PLI h) (hf : 3 ≤ f ∧ f ≤ 6) : Fn (d + 3) MX4_firstProjectWith [mA 1, mI f, mA 4] h (some (mI (firstI (jhas h f) (h 1 4).toNat 0))) h := by
  intro Q hq X hX hR
  have hn := hI.q
  show VW X 0 [some (mA 1), some (mI f), some (mA 4), none] [] h
  have loop : ∀ (k i : Nat), i + k = (h 1 4).toNat → Q (some (mI (firstI (jhas h f) k i))) h → VW X 2 [some (mA 1), some (mI f), some (mA 4), some (mI i)] [] h := by
    intro k
    induction k with
    | zero =>
      intro i hi hq
      refine v_iload_n hX eX4_firstProjectWith_2 rfl ?_
      refine v_aload_n hX eX4_firstProjectWith_3 rfl ?_
      refine v_getI hX eX4_firstProjectWith_4 fi_X4_36 ⟨by decide, rfl⟩ ?_
      refine v_icmp_ge hX eX4_firstProjectWith_7 (tgt := 33) rfl ⟨by omega, by omega⟩ ⟨by omega, by omega⟩ (fun c7 => ?_) (fun c7 => False.elim ((by omega)))
      refine v_iconst hX eX4_firstProjectWith_33 ?_
      exact v_ireturn hX hR eX4_firstProjectWith_34 rfl (hq)
    | succ k ih =>
      intro i hi hq
      refine v_iload_n hX eX4_firstProjectWith_2 rfl ?_
      refine v_aload_n hX eX4_firstProjectWith_3 rfl ?_
      refine v_getI hX eX4_firstProjectWith_4 fi_X4_36 ⟨by decide, rfl⟩ ?_
      refine v_icmp_ge hX eX4_firstProjectWith_7 (tgt := 33) rfl ⟨by omega, by omega⟩ ⟨by omega, by omega⟩ (fun c7 => False.elim ((by omega))) (fun c7 => ?_)
      refine v_aload_n hX eX4_firstProjectWith_10 rfl ?_
      refine v_iload_n hX eX4_firstProjectWith_11 rfl ?_
      refine v_iload_n hX eX4_firstProjectWith_12 rfl ?_
      refine v_aload_n hX eX4_firstProjectWith_13 rfl ?_
      refine v_aload_n hX eX4_firstProjectWith_14 rfl ?_
      refine v_iload_n hX eX4_firstProjectWith_15 rfl ?_
      refine v_fnV hX eX4_firstProjectWith_16 lV_X4_95 ok_MX4_groupOf ⟨by decide, rfl⟩ rfl ⟨rfl, Nat.le_of_ble_eq_true rfl⟩ (Nat.le_of_ble_eq_true rfl) (c_X4_groupOf hI hL ⟨by omega, by omega⟩) rfl ?_
      try simp only [Int.toNat_natCast, Int.toNat_zero, Int.reduceToNat]
      refine v_fnV hX eX4_firstProjectWith_19 lV_X4_99 ok_MX4_groupHas ⟨by decide, rfl⟩ rfl ⟨rfl, Nat.le_of_ble_eq_true rfl⟩ (Nat.le_of_ble_eq_true rfl) (c_X4_groupHas hI hf ⟨by omega, by omega⟩ (grp_lt hI _)) rfl ?_
      try simp only [Int.toNat_natCast, Int.toNat_zero, Int.reduceToNat]
      refine v_ifB_eq hX eX4_firstProjectWith_22 (tgt := 27) rfl (fun c22 => ?_) (fun c22 => ?_)
      · rw [firstI_f (P := jhas h f) c22] at hq
        refine v_iinc hX eX4_firstProjectWith_27 rfl rfl rfl ?_
        exact v_goto hX eX4_firstProjectWith_30 (tgt := 2) rfl (ih (i + 1) (by omega) hq)
      · refine v_iload_n hX eX4_firstProjectWith_25 rfl ?_
        exact v_ireturn hX hR eX4_firstProjectWith_26 rfl (q_i (firstI_t (P := jhas h f) c22) hq)
  refine v_iconst hX eX4_firstProjectWith_0 ?_
  refine v_istore_n hX eX4_firstProjectWith_1 rfl rfl ?_
  exact loop _ 0 (by omega) hq
noncomputable def fltK (h : Hp) (f : Int) : Int := if 3 ≤ f ∧ f ≤ 6 then firstI (jhas h f) (h 1 4).toNat 0 else firstI (phas h f) (h 1 3).toNat 0
noncomputable def fltFrom (h : Hp) : Nat → Int → Int
  | 0, _ => 0
  | k + 1, f => if fltK h f = -1 then fltFrom h k (f + 1) else f * 10 + fltK h f
noncomputable def flt (h : Hp) : Int := fltFrom h 7 1
theorem fltK_rng {h : Hp} (hI : RI h) (f : Int) : -1 ≤ fltK h f ∧ fltK h f < 8 := by
  have hn := hI.n
  have hq := hI.q
  unfold fltK
  split
  · rcases firstI_rng (P := jhas h f) (h 1 4).toNat 0 with e | e <;> omega
  · rcases firstI_rng (P := phas h f) (h 1 3).toNat 0 with e | e <;> omega
set_option maxHeartbeats 2000000 in
set_option maxRecDepth 20000 in
theorem c_X4_faultOf {d : Nat} {h : Hp} (hI : RI h) (hL : PLI h) : Fn (d + 4) MX4_faultOf [mA 1, mA 4] h (some (mI (flt h))) h := by
  intro Q hq X hX hR
  have hn := hI.n
  show VW X 0 [some (mA 1), some (mA 4), none, none, none] [] h
  have loop : ∀ (k : Nat) (l3 l4 : Option MV) (f : Int), nlg [some (mA 1), some (mA 4), some (mI f), l3, l4] 3 = true → nlg [some (mA 1), some (mA 4), some (mI f), l3, l4] 4 = true → (∀ x : Int, l3 ≠ some (mL x)) → 1 ≤ f → f + k = 8 → Q (some (mI (fltFrom h k f))) h → VW X 2 [some (mA 1), some (mA 4), some (mI f), l3, l4] [] h := by
    intro k
    induction k with
    | zero =>
      intro l3 l4 f n3 n4 _ h1 hf hq
      refine v_iload_n hX eX4_faultOf_2 rfl ?_
      refine v_bipush hX eX4_faultOf_3 (by decide) ?_
      refine v_icmp_gt hX eX4_faultOf_5 (tgt := 66) rfl ⟨by omega, by omega⟩ ⟨by omega, by omega⟩ (fun c5 => ?_) (fun c5 => False.elim ((by omega)))
      refine v_iconst hX eX4_faultOf_66 ?_
      exact v_ireturn hX hR eX4_faultOf_67 rfl (hq)
    | succ k ih =>
      intro l3 l4 f n3 n4 nl h1 hf hq
      have hr := fltK_rng hI f
      have next : ∀ (r3 : Int), fltK h f = -1 → VW X 60 [some (mA 1), some (mA 4), some (mI f), some (mI r3), some (mI (fltK h f))] [] h := by
        intro r3 e
        rw [fltFrom, if_pos e] at hq
        refine v_iinc hX eX4_faultOf_60 rfl rfl rfl ?_
        exact v_goto hX eX4_faultOf_63 (tgt := 2) rfl (ih _ _ (f + 1) rfl rfl (fun x e => by cases e) (by omega) (by omega) hq)
      have fin : ¬ fltK h f = -1 → Q (some (mI (f * 10 + fltK h f))) h := fun e => by
        rw [fltFrom, if_neg e] at hq
        exact hq
      by_cases hc : 3 ≤ f ∧ f ≤ 6
      · have e : fltK h f = firstI (jhas h f) (h 1 4).toNat 0 := if_pos hc
        refine v_iload_n hX eX4_faultOf_2 rfl ?_
        refine v_bipush hX eX4_faultOf_3 (by decide) ?_
        refine v_icmp_gt hX eX4_faultOf_5 (tgt := 66) rfl ⟨by omega, by omega⟩ ⟨by omega, by omega⟩ (fun c5 => False.elim ((by omega))) (fun c5 => ?_)
        refine v_iload_n hX eX4_faultOf_8 rfl ?_
        refine v_iconst hX eX4_faultOf_9 ?_
        refine v_icmp_lt hX eX4_faultOf_10 (tgt := 23) rfl ⟨by omega, by omega⟩ ⟨by omega, by omega⟩ (fun c10 => False.elim ((by omega))) (fun c10 => ?_)
        refine v_iload_n hX eX4_faultOf_13 rfl ?_
        refine v_bipush hX eX4_faultOf_14 (by decide) ?_
        refine v_icmp_gt hX eX4_faultOf_16 (tgt := 23) rfl ⟨by omega, by omega⟩ ⟨by omega, by omega⟩ (fun c16 => False.elim ((by omega))) (fun c16 => ?_)
        refine v_iconst hX eX4_faultOf_19 ?_
        refine v_goto hX eX4_faultOf_20 (tgt := 24) rfl ?_
        refine v_istore_n hX eX4_faultOf_24 rfl rfl ?_
        refine v_iload_n hX eX4_faultOf_25 rfl ?_
        refine v_if_eq hX eX4_faultOf_26 (tgt := 38) rfl ⟨by omega, by omega⟩ (fun c26 => False.elim ((by omega))) (fun c26 => ?_)
        refine v_aload_n hX eX4_faultOf_29 rfl ?_
        refine v_iload_n hX eX4_faultOf_30 rfl ?_
        refine v_aload_n hX eX4_faultOf_31 rfl ?_
        refine v_fnV hX eX4_faultOf_32 lV_X4_81 ok_MX4_firstProjectWith ⟨by decide, rfl⟩ rfl ⟨rfl, Nat.le_of_ble_eq_true rfl⟩ (Nat.le_of_ble_eq_true rfl) (c_X4_firstProjectWith hI hL hc) rfl ?_
        try simp only [Int.toNat_natCast, Int.toNat_zero, Int.reduceToNat]
        refine v_goto hX eX4_faultOf_35 (tgt := 44) rfl ?_
        rw [← e]
        refine v_istore hX eX4_faultOf_44 rfl rfl ?_
        refine v_iload hX eX4_faultOf_46 rfl ?_
        refine v_iconst hX eX4_faultOf_48 ?_
        refine v_icmp_eq hX eX4_faultOf_49 (tgt := 60) rfl ⟨by omega, by omega⟩ ⟨by omega, by omega⟩ (fun c49 => ?_) (fun c49 => ?_)
        · exact next _ c49
        · refine v_iload_n hX eX4_faultOf_52 rfl ?_
          refine v_bipush hX eX4_faultOf_53 (by decide) ?_
          refine v_imul hX eX4_faultOf_55 ?_
          refine v_iload hX eX4_faultOf_56 rfl ?_
          refine v_iadd hX eX4_faultOf_58 ?_
          exact v_ireturn hX hR eX4_faultOf_59 rfl (fin c49)
      · have e : fltK h f = firstI (phas h f) (h 1 3).toNat 0 := if_neg hc
        refine v_iload_n hX eX4_faultOf_2 rfl ?_
        refine v_bipush hX eX4_faultOf_3 (by decide) ?_
        refine v_icmp_gt hX eX4_faultOf_5 (tgt := 66) rfl ⟨by omega, by omega⟩ ⟨by omega, by omega⟩ (fun c5 => False.elim ((by omega))) (fun c5 => ?_)
        refine v_iload_n hX eX4_faultOf_8 rfl ?_
        refine v_iconst hX eX4_faultOf_9 ?_
        refine v_icmp_lt hX eX4_faultOf_10 (tgt := 23) rfl ⟨by omega, by omega⟩ ⟨by omega, by omega⟩ (fun c10 => ?_) (fun c10 => ?_)
        · refine v_iconst hX eX4_faultOf_23 ?_
          refine v_istore_n hX eX4_faultOf_24 rfl rfl ?_
          refine v_iload_n hX eX4_faultOf_25 rfl ?_
          refine v_if_eq hX eX4_faultOf_26 (tgt := 38) rfl ⟨by omega, by omega⟩ (fun c26 => ?_) (fun c26 => False.elim ((by omega)))
          refine v_aload_n hX eX4_faultOf_38 rfl ?_
          refine v_iload_n hX eX4_faultOf_39 rfl ?_
          refine v_aload_n hX eX4_faultOf_40 rfl ?_
          refine v_fnV hX eX4_faultOf_41 lV_X4_85 ok_MX4_firstPupilWith ⟨by decide, rfl⟩ rfl ⟨rfl, Nat.le_of_ble_eq_true rfl⟩ (Nat.le_of_ble_eq_true rfl) (c_X4_firstPupilWith hI hL (by omega)) rfl ?_
          try simp only [Int.toNat_natCast, Int.toNat_zero, Int.reduceToNat]
          rw [← e]
          refine v_istore hX eX4_faultOf_44 rfl rfl ?_
          refine v_iload hX eX4_faultOf_46 rfl ?_
          refine v_iconst hX eX4_faultOf_48 ?_
          refine v_icmp_eq hX eX4_faultOf_49 (tgt := 60) rfl ⟨by omega, by omega⟩ ⟨by omega, by omega⟩ (fun c49 => ?_) (fun c49 => ?_)
          · exact next _ c49
          · refine v_iload_n hX eX4_faultOf_52 rfl ?_
            refine v_bipush hX eX4_faultOf_53 (by decide) ?_
            refine v_imul hX eX4_faultOf_55 ?_
            refine v_iload hX eX4_faultOf_56 rfl ?_
            refine v_iadd hX eX4_faultOf_58 ?_
            exact v_ireturn hX hR eX4_faultOf_59 rfl (fin c49)
        · refine v_iload_n hX eX4_faultOf_13 rfl ?_
          refine v_bipush hX eX4_faultOf_14 (by decide) ?_
          refine v_icmp_gt hX eX4_faultOf_16 (tgt := 23) rfl ⟨by omega, by omega⟩ ⟨by omega, by omega⟩ (fun c16 => ?_) (fun c16 => False.elim ((by omega)))
          refine v_iconst hX eX4_faultOf_23 ?_
          refine v_istore_n hX eX4_faultOf_24 rfl rfl ?_
          refine v_iload_n hX eX4_faultOf_25 rfl ?_
          refine v_if_eq hX eX4_faultOf_26 (tgt := 38) rfl ⟨by omega, by omega⟩ (fun c26 => ?_) (fun c26 => False.elim ((by omega)))
          refine v_aload_n hX eX4_faultOf_38 rfl ?_
          refine v_iload_n hX eX4_faultOf_39 rfl ?_
          refine v_aload_n hX eX4_faultOf_40 rfl ?_
          refine v_fnV hX eX4_faultOf_41 lV_X4_85 ok_MX4_firstPupilWith ⟨by decide, rfl⟩ rfl ⟨rfl, Nat.le_of_ble_eq_true rfl⟩ (Nat.le_of_ble_eq_true rfl) (c_X4_firstPupilWith hI hL (by omega)) rfl ?_
          try simp only [Int.toNat_natCast, Int.toNat_zero, Int.reduceToNat]
          rw [← e]
          refine v_istore hX eX4_faultOf_44 rfl rfl ?_
          refine v_iload hX eX4_faultOf_46 rfl ?_
          refine v_iconst hX eX4_faultOf_48 ?_
          refine v_icmp_eq hX eX4_faultOf_49 (tgt := 60) rfl ⟨by omega, by omega⟩ ⟨by omega, by omega⟩ (fun c49 => ?_) (fun c49 => ?_)
          · exact next _ c49
          · refine v_iload_n hX eX4_faultOf_52 rfl ?_
            refine v_bipush hX eX4_faultOf_53 (by decide) ?_
            refine v_imul hX eX4_faultOf_55 ?_
            refine v_iload hX eX4_faultOf_56 rfl ?_
            refine v_iadd hX eX4_faultOf_58 ?_
            exact v_ireturn hX hR eX4_faultOf_59 rfl (fin c49)
  refine v_iconst hX eX4_faultOf_0 ?_
  refine v_istore_n hX eX4_faultOf_1 rfl rfl ?_
  exact loop 7 none none 1 rfl rfl (fun x e => by cases e) (by decide) (by decide) hq
