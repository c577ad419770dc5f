/-! Search.prepare -/
noncomputable def P0 (h : Hp) : Hp := up (up (SFn (FGi h 0) (h 1 3).toNat) 2 6 (bs (prF h) (h 1 3).toNat : Nat)) 2 7 (h 1 4)
noncomputable def PRi (h : Hp) (i : Nat) : Hp := fun a b => if a = 13 ∧ b < i then (if b < (h 1 3).toNat then h (23 + b) 4 else 0) else if a = 15 ∧ b < i then -1 else P0 h a b
noncomputable def PRH (h : Hp) : Hp := PRi h 8
theorem P0_ne {h : Hp} {a : Nat} (h2 : a ≠ 2) (h3 : a ≠ 17) (h4 : a ≠ 18) (h5 : a ≠ 19) (h6 : a ≠ 20) : P0 h a = h a := by
  unfold P0
  rw [up_obf h2, up_obf h2, SFn_ne h5 h6, FGi_ne h3 h4]
theorem PRi_ne {h : Hp} {i a : Nat} (h0 : a ≠ 13) (h1 : a ≠ 15) (h2 : a ≠ 2) (h3 : a ≠ 17) (h4 : a ≠ 18) (h5 : a ≠ 19) (h6 : a ≠ 20) : PRi h i a = h a := by
  funext b
  unfold PRi
  rw [if_neg (fun z => h0 z.1), if_neg (fun z => h1 z.1), P0_ne h2 h3 h4 h5 h6]
theorem PRi_RE {h : Hp} {i : Nat} : RE h (PRi h i) := RE.of (fun k hk => PRi_ne (by omega) (by omega) (by omega) (by omega) (by omega) (by omega) (by omega))
theorem PRi_s {h : Hp} {i : Nat} : up (up (PRi h i) 13 i (if i < (h 1 3).toNat then h (23 + i) 4 else 0)) 15 i (-1) = PRi h (i + 1) := by
  funext a b
  simp only [up, PRi]
  by_cases hb : b = i
  · subst hb
    by_cases a1 : a = 15
    · subst a1; simp
    · by_cases a2 : a = 13
      · subst a2; simp
      · simp [a1, a2]
  · have : (b < i + 1) ↔ b < i := by omega
    simp [hb, this]
theorem plc_RE {h g : Hp} (e : RE h g) (p : Nat) : plc g p = plc h p := by
  unfold plc
  rw [e.2.1, e.1]
theorem prF_RE {h g : Hp} (e : RE h g) : prF g = prF h := by
  funext p
  simp only [prF, e.2.2.1]
set_option maxHeartbeats 2000000 in
set_option maxRecDepth 20000 in
theorem c_X6_prepare {d : Nat} {h : Hp} (hI : RI h) (hP : ∀ p, p < (h 1 3).toNat → 0 ≤ plc h p ∧ plc h p ≤ 7) : Fn (d + 5) MX6_prepare [mA 2, mA 1] h none (PRH h) := by
  intro Q hq X hX hR
  have hn := hI.n
  have e1 : FGi h 0 1 3 = h 1 3 := by rw [FGi_ne (by decide) (by decide)]
  have e2 : SFn (FGi h 0) (h 1 3).toNat 1 = h 1 := by rw [SFn_ne (by decide) (by decide), FGi_ne (by decide) (by decide)]
  have re2 : RE h (SFn (FGi h 0) (h 1 3).toNat) := RE.of (fun k hk => by rw [SFn_ne (by omega) (by omega), FGi_ne (by omega) (by omega)])
  have loop : ∀ i : Nat, i ≤ 8 → ∀ l3, VW X 34 [some (mA 2), some (mA 1), some (mI i), l3] [] (PRi h i) := by
    refine loop_up 8 ?_ ?_
    · intro l3
      refine v_iload_n hX eX6_prepare_34 rfl ?_
      refine v_bipush hX eX6_prepare_35 (by decide) ?_
      refine v_icmp_ge hX eX6_prepare_37 (tgt := 77) rfl ⟨by omega, by omega⟩ ⟨by omega, by omega⟩ (fun c37 => ?_) (fun c37 => False.elim ((by omega)))
      exact v_return hX hR eX6_prepare_77 rfl (hq)
    · intro i hi ih l3
      have hI2 : RI (PRi h i) := PRi_RE.ri hI
      have n2 : PRi h i 1 3 = h 1 3 := by rw [PRi_RE.1]
      have s := PRi_s (h := h) (i := i)
      by_cases hin : i < (h 1 3).toNat
      · rw [if_pos hin] at s
        refine v_iload_n hX eX6_prepare_34 rfl ?_
        refine v_bipush hX eX6_prepare_35 (by decide) ?_
        refine v_icmp_ge hX eX6_prepare_37 (tgt := 77) rfl ⟨by omega, by omega⟩ ⟨by omega, by omega⟩ (fun c37 => False.elim ((by omega))) (fun c37 => ?_)
        refine v_aload_n hX eX6_prepare_40 rfl ?_
        refine v_iload_n hX eX6_prepare_41 rfl ?_
        refine v_fnV hX eX6_prepare_42 lV_X6_56 ok_MX4_pupilOf ⟨by decide, rfl⟩ rfl ⟨rfl, Nat.le_of_ble_eq_true rfl⟩ (Nat.le_of_ble_eq_true rfl) (c_X4_pupilOf hI2 ⟨by omega, by rw [n2]; omega⟩) rfl ?_
        try simp only [Int.toNat_natCast, Int.toNat_zero, Int.reduceToNat]
        refine v_astore_n hX eX6_prepare_45 rfl rfl ?_
        refine v_aload_n hX eX6_prepare_46 rfl ?_
        refine v_getA hX eX6_prepare_47 fi_X6_25 ⟨by decide, rfl⟩ rfl ?_
        refine v_iload_n hX eX6_prepare_50 rfl ?_
        refine v_aload_n hX eX6_prepare_51 rfl ?_
        refine v_ifnonnull hX eX6_prepare_52 (tgt := 59) rfl ?_
        refine v_aload_n hX eX6_prepare_59 rfl ?_
        refine v_getI hX eX6_prepare_60 fi_X6_60 (OB_pu (by omega)) ?_
        rw [PRi_RE.2.2.1]
        refine v_iast hX eX6_prepare_63 (by first | exact ⟨by decide, rfl⟩ | exact AR_rk (by omega)) ⟨by omega, by omega⟩ ?_
        try simp only [Int.toNat_natCast, Int.toNat_zero, Int.reduceToNat]
        refine v_aload_n hX eX6_prepare_64 rfl ?_
        refine v_getA hX eX6_prepare_65 fi_X6_32 ⟨by decide, rfl⟩ rfl ?_
        refine v_iload_n hX eX6_prepare_68 rfl ?_
        refine v_iconst hX eX6_prepare_69 ?_
        refine v_iast hX eX6_prepare_70 (by first | exact ⟨by decide, rfl⟩ | exact AR_rk (by omega)) ⟨by omega, by omega⟩ ?_
        try simp only [Int.toNat_natCast, Int.toNat_zero, Int.reduceToNat]
        rw [s]
        refine v_iinc hX eX6_prepare_71 rfl rfl rfl ?_
        refine v_goto hX eX6_prepare_74 (tgt := 34) rfl ?_
        exact ih _
      · rw [if_neg hin] at s
        refine v_iload_n hX eX6_prepare_34 rfl ?_
        refine v_bipush hX eX6_prepare_35 (by decide) ?_
        refine v_icmp_ge hX eX6_prepare_37 (tgt := 77) rfl ⟨by omega, by omega⟩ ⟨by omega, by omega⟩ (fun c37 => False.elim ((by omega))) (fun c37 => ?_)
        refine v_aload_n hX eX6_prepare_40 rfl ?_
        refine v_iload_n hX eX6_prepare_41 rfl ?_
        refine v_fnV hX eX6_prepare_42 lV_X6_56 ok_MX4_pupilOf ⟨by decide, rfl⟩ rfl ⟨rfl, Nat.le_of_ble_eq_true rfl⟩ (Nat.le_of_ble_eq_true rfl) (c_X4_pupilOf_N hI2 ⟨by omega, by omega⟩ (fun z => by have := z.2; rw [n2] at this; omega)) rfl ?_
        try simp only [Int.toNat_natCast, Int.toNat_zero, Int.reduceToNat]
        refine v_astore_nN hX eX6_prepare_45 rfl rfl ?_
        refine v_aload_n hX eX6_prepare_46 rfl ?_
        refine v_getA hX eX6_prepare_47 fi_X6_25 ⟨by decide, rfl⟩ rfl ?_
        refine v_iload_n hX eX6_prepare_50 rfl ?_
        refine v_aload_nN hX eX6_prepare_51 rfl ?_
        refine v_ifnonnullN hX eX6_prepare_52 ?_
        refine v_iconst hX eX6_prepare_55 ?_
        refine v_goto hX eX6_prepare_56 (tgt := 63) rfl ?_
        refine v_iast hX eX6_prepare_63 (by first | exact ⟨by decide, rfl⟩ | exact AR_rk (by omega)) ⟨by omega, by omega⟩ ?_
        try simp only [Int.toNat_natCast, Int.toNat_zero, Int.reduceToNat]
        refine v_aload_n hX eX6_prepare_64 rfl ?_
        refine v_getA hX eX6_prepare_65 fi_X6_32 ⟨by decide, rfl⟩ rfl ?_
        refine v_iload_n hX eX6_prepare_68 rfl ?_
        refine v_iconst hX eX6_prepare_69 ?_
        refine v_iast hX eX6_prepare_70 (by first | exact ⟨by decide, rfl⟩ | exact AR_rk (by omega)) ⟨by omega, by omega⟩ ?_
        try simp only [Int.toNat_natCast, Int.toNat_zero, Int.reduceToNat]
        rw [s]
        refine v_iinc hX eX6_prepare_71 rfl rfl rfl ?_
        refine v_goto hX eX6_prepare_74 (tgt := 34) rfl ?_
        exact ih _
  have l0 := loop 0 (by omega) none
  rw [show PRi h 0 = P0 h from by funext a b; simp [PRi]] at l0
  show VW X 0 [some (mA 2), some (mA 1), none, none] [] h
  refine v_aload_n hX eX6_prepare_0 rfl ?_
  refine v_getA hX eX6_prepare_1 fi_X6_12 ⟨by decide, rfl⟩ rfl ?_
  refine v_aload_n hX eX6_prepare_4 rfl ?_
  refine v_fnV0 hX eX6_prepare_5 lV_X6_38 ok_MX0_fill ⟨by decide, rfl⟩ rfl ⟨rfl, Nat.le_of_ble_eq_true rfl⟩ (Nat.le_of_ble_eq_true rfl) (c_X0_fill hI) rfl ?_
  try simp only [Int.toNat_natCast, Int.toNat_zero, Int.reduceToNat]
  refine v_aload_n hX eX6_prepare_8 rfl ?_
  refine v_getA hX eX6_prepare_9 fi_X6_21 ⟨by decide, rfl⟩ rfl ?_
  refine v_aload_n hX eX6_prepare_12 rfl ?_
  refine v_fnV0 hX eX6_prepare_13 lV_X6_42 ok_MX5_fill ⟨by decide, rfl⟩ rfl ⟨rfl, Nat.le_of_ble_eq_true rfl⟩ (Nat.le_of_ble_eq_true rfl) (c_X5_fill (FGi_RE.ri hI) (fun p hp => by rw [plc_RE FGi_RE]; rw [e1] at hp; exact hP p hp)) rfl ?_
  try simp only [Int.toNat_natCast, Int.toNat_zero, Int.reduceToNat]
  rw [e1]
  refine v_aload_n hX eX6_prepare_16 rfl ?_
  refine v_aload_n hX eX6_prepare_17 rfl ?_
  refine v_fnV hX eX6_prepare_18 lV_X6_43 ok_MX4_presentBits ⟨by decide, rfl⟩ rfl ⟨rfl, Nat.le_of_ble_eq_true rfl⟩ (Nat.le_of_ble_eq_true rfl) (c_X4_presentBits (re2.ri hI)) rfl ?_
  try simp only [Int.toNat_natCast, Int.toNat_zero, Int.reduceToNat]
  rw [prF_RE re2, e2]
  refine v_putI hX eX6_prepare_21 fi_X6_49 ⟨by decide, rfl⟩ ?_
  refine v_aload_n hX eX6_prepare_24 rfl ?_
  refine v_aload_n hX eX6_prepare_25 rfl ?_
  refine v_getI hX eX6_prepare_26 fi_X6_52 ⟨by decide, rfl⟩ ?_
  rw [up_ob (by decide), e2]
  refine v_putI hX eX6_prepare_29 fi_X6_55 ⟨by decide, rfl⟩ ?_
  refine v_iconst hX eX6_prepare_32 ?_
  refine v_istore_n hX eX6_prepare_33 rfl rfl ?_
  exact l0
/-! what it leaves behind -/
def SCI (h : Hp) : Prop := ∀ i, i < 48 → 0 ≤ h 19 i ∧ h 19 i ≤ 4398046511104 ∧ h 19 i % 32 = 0 ∧ 0 ≤ h 20 i ∧ h 20 i ≤ 4503599627370496
theorem cstV_rng {r s : Int} (hr : 0 ≤ r ∧ r ≤ 6) (hs : 0 ≤ s ∧ s ≤ 300) : 0 ≤ cstV r s ∧ cstV r s ≤ 137438953472 ∧ cstV r s % 32 = 0 := by
  have hm := cst_mul hr hs
  unfold cstV
  rcases (show r = 0 ∨ r = 1 ∨ r = 2 ∨ r = 3 ∨ r = 4 ∨ r = 5 ∨ r = 6 by omega) with rfl | rfl | rfl | rfl | rfl | rfl | rfl
  · rw [if_pos (by decide)]; omega
  · rw [if_pos (by decide)]; omega
  · rw [if_neg (by decide), show ((2 ^ (20 + 4 * ((2 : Int) - 2).toNat) : Nat) : Int) = 1048576 from by decide]; omega
  · rw [if_neg (by decide), show ((2 ^ (20 + 4 * ((3 : Int) - 2).toNat) : Nat) : Int) = 16777216 from by decide]; omega
  · rw [if_neg (by decide), show ((2 ^ (20 + 4 * ((4 : Int) - 2).toNat) : Nat) : Int) = 268435456 from by decide]; omega
  · rw [if_neg (by decide), show ((2 ^ (20 + 4 * ((5 : Int) - 2).toNat) : Nat) : Int) = 4294967296 from by decide]; omega
  · rw [if_neg (by decide), show ((2 ^ (20 + 4 * ((6 : Int) - 2).toNat) : Nat) : Int) = 68719476736 from by decide]; omega
theorem digV_rng {r c pl : Int} (hr : 0 ≤ r ∧ r ≤ 6) (hc : 0 ≤ c ∧ c ≤ 5) : 0 ≤ digV r c pl ∧ digV r c pl ≤ 4503599627370496 := by
  have hk : 2 ^ (6 * (7 - pl.toNat)) ≤ 2 ^ 42 := pw2 (by omega)
  have h1 : (0 : Int) ≤ ((2 ^ (6 * (7 - pl.toNat)) : Nat) : Int) := Int.natCast_nonneg _
  have h2 : ((2 ^ (6 * (7 - pl.toNat)) : Nat) : Int) ≤ 4398046511104 := by omega
  unfold digV
  constructor
  · exact Int.mul_nonneg (by omega) h1
  · have := Int.mul_le_mul (show r * 8 + c ≤ 53 by omega) h2 h1 (by decide)
    omega
theorem rkc_rng {h : Hp} (hI : RI h) {p c : Nat} (hp : p < 8) : 0 ≤ rkc h (31 + p) c ∧ rkc h (31 + p) c ≤ 6 := by
  unfold rkc
  split
  · rename_i hc
    have := (hI.pu hp).2.2.2.2.2.2 c hc
    omega
  · decide
theorem PRH_17 {h : Hp} {x : Nat} (hx : x < 256) : PRH h 17 x = (fitN h x : Nat) := by
  unfold PRH PRi P0
  rw [if_neg (by omega), if_neg (by omega), up_ob (by decide), up_ob (by decide), SFn_ne (by decide) (by decide), FGi, if_pos ⟨rfl, Nat.zero_le _, hx⟩]
theorem PRH_18 {h : Hp} {x : Nat} (hx : x < 256) : PRH h 18 x = (opnN h x : Nat) := by
  unfold PRH PRi P0
  rw [if_neg (by omega), if_neg (by omega), up_ob (by decide), up_ob (by decide), SFn_ne (by decide) (by decide), FGi, if_neg (by omega), if_pos ⟨rfl, Nat.zero_le _, hx⟩]
theorem PRH_19 {h : Hp} {i : Nat} : PRH h 19 i = if i < 6 * (h 1 3).toNat then csC h (i / 6) (i % 6) else h 19 i := by
  unfold PRH PRi P0
  rw [if_neg (by omega), if_neg (by omega), up_ob (by decide), up_ob (by decide), SFn]
  split
  · rename_i z
    rw [if_pos z.2]
    unfold csC rkc
    rw [FGi_ne (by omega) (by omega), FGi_ne (by omega) (by omega)]
  · rename_i z
    rw [if_neg (by omega), if_neg (by omega), FGi_ne (by decide) (by decide)]
theorem PRH_20 {h : Hp} {i : Nat} : PRH h 20 i = if i < 6 * (h 1 3).toNat then dgC h (i / 6) (i % 6) else h 20 i := by
  unfold PRH PRi P0
  rw [if_neg (by omega), if_neg (by omega), up_ob (by decide), up_ob (by decide), SFn, if_neg (by omega)]
  split
  · rename_i z
    rw [if_pos z.2]
    unfold dgC rkc
    rw [FGi_ne (by omega) (by omega), plc_RE FGi_RE]
  · rename_i z
    rw [if_neg (by omega), FGi_ne (by decide) (by decide)]
theorem PRH_26 {h : Hp} : PRH h 2 6 = (bs (prF h) (h 1 3).toNat : Nat) := by
  unfold PRH PRi P0
  rw [if_neg (by omega), if_neg (by omega), up_ne (by decide), up_same]
theorem PRH_27 {h : Hp} : PRH h 2 7 = h 1 4 := by
  unfold PRH PRi P0
  rw [if_neg (by omega), if_neg (by omega), up_same]
theorem PRH_2 {h : Hp} {j : Nat} (h6 : j ≠ 6) (h7 : j ≠ 7) : PRH h 2 j = h 2 j := by
  unfold PRH PRi P0
  rw [if_neg (by omega), if_neg (by omega), up_ne (by omega), up_ne (by omega), SFn_ne (by decide) (by decide), FGi_ne (by decide) (by decide)]
theorem PRH_13 {h : Hp} {j : Nat} (hj : j < 8) : PRH h 13 j = if j < (h 1 3).toNat then h (23 + j) 4 else 0 := by
  unfold PRH PRi
  rw [if_pos ⟨rfl, hj⟩]
theorem PRH_15 {h : Hp} {j : Nat} (hj : j < 8) : PRH h 15 j = -1 := by
  unfold PRH PRi
  rw [if_neg (by omega), if_pos ⟨rfl, hj⟩]
theorem PRH_isP {h : Hp} (j : Nat) : isP (PRH h) j = (decide (j < (h 1 3).toNat) && prF h j) := by
  unfold isP
  rw [PRH_26, Int.toNat_natCast, bs_bit]
theorem PRH_ENV {h : Hp} (hI : RI h) (hS : SCI h) : ENV (PRH h) := by
  have hn := hI.n
  have hbl : bs (prF h) (h 1 3).toNat < 256 := bs_lt8 _ (by omega)
  refine ⟨by rw [PRH_26]; omega, by rw [PRH_27]; exact hI.q, fun i hi => ?_, fun j hj => ?_, fun x hx => ?_, fun x y q hx hy hs hf => ?_⟩
  · have h0 := hS i hi
    rw [PRH_19, PRH_20]
    split
    · rename_i hin
      have hr := rkc_rng hI (p := i / 6) (c := i % 6) (by omega)
      have hs := (hI.pu (p := i / 6) (by omega)).2.2.1
      have c := cstV_rng hr hs
      have g := digV_rng (pl := plc h (i / 6)) hr (c := ((i % 6 : Nat) : Int)) (by omega)
      unfold csC dgC
      omega
    · exact h0
  · rw [PRH_13 hj]
    split
    · exact (hI.pu hj).2.2.2.1
    · decide
  · rw [PRH_17 hx, PRH_18 hx]
    have := fitN_lt hI x
    have := opnN_lt (h := h) x
    omega
  · rw [PRH_17 hy, Int.toNat_natCast] at hf
    rw [PRH_18 hx, Int.toNat_natCast, opnN, bs_bit]
    have hq5 : q < 5 := Classical.byContradiction (fun z => by
      rw [Nat.testBit_lt_two_pow (Nat.lt_of_lt_of_le (fitN_lt hI y) (show 2 ^ 5 ≤ 2 ^ q from pw2 (by omega)))] at hf
      cases hf)
    simp only [hq5, decide_true, Bool.true_and]
    exact pb_iff.mpr ⟨y, hy, hs, hf⟩
set_option maxHeartbeats 2000000 in
set_option maxRecDepth 20000 in
theorem c_X6_tellRanks {d : Nat} {h : Hp} {p : Nat} {pl s : Int} {k : Nat} (hp : p < 8) (hpl : 0 ≤ pl ∧ pl ≤ 7) (hs : 0 ≤ s ∧ s ≤ 300) (hk : AR k 0 5) (hk2 : k ≠ 19 ∧ k ≠ 20) (hr : ∀ j, j < 5 → 0 ≤ h k j ∧ h k j ≤ 6) : Fn (d + 2) MX6_tellRanks [mA 2, mI p, mI pl, mI s, mA k] h none (FPn h p pl s k 6) := by
  intro Q hq X hX hR
  show VW X 0 [some (mA 2), some (mI p), some (mI pl), some (mI s), some (mA k)] [] h
  refine v_aload_n hX eX6_tellRanks_0 rfl ?_
  refine v_getA hX eX6_tellRanks_1 fi_X6_21 ⟨by decide, rfl⟩ rfl ?_
  refine v_iload_n hX eX6_tellRanks_4 rfl ?_
  refine v_iload_n hX eX6_tellRanks_5 rfl ?_
  refine v_iload_n hX eX6_tellRanks_6 rfl ?_
  refine v_aload hX eX6_tellRanks_7 rfl ?_
  refine v_fnV0 hX eX6_tellRanks_9 lV_X6_64 ok_MX5_fillPupil ⟨by decide, rfl⟩ rfl ⟨rfl, Nat.le_of_ble_eq_true rfl⟩ (Nat.le_of_ble_eq_true rfl) (c_X5_fillPupil hp hpl hs hk hk2 hr) rfl ?_
  try simp only [Int.toNat_natCast, Int.toNat_zero, Int.reduceToNat]
  exact v_return hX hR eX6_tellRanks_12 rfl (hq)
set_option maxHeartbeats 2000000 in
set_option maxRecDepth 20000 in
theorem c_X6_chargeMove {d : Nat} {h : Hp} {p : Nat} {had : Int} (hp : p < 8) (hr : rng had) : Fn (d + 2) MX6_chargeMove [mA 2, mI p, mI had] h none (CMn h p had 5) := by
  intro Q hq X hX hR
  show VW X 0 [some (mA 2), some (mI p), some (mI had)] [] h
  refine v_aload_n hX eX6_chargeMove_0 rfl ?_
  refine v_getA hX eX6_chargeMove_1 fi_X6_21 ⟨by decide, rfl⟩ rfl ?_
  refine v_iload_n hX eX6_chargeMove_4 rfl ?_
  refine v_iload_n hX eX6_chargeMove_5 rfl ?_
  refine v_fnV0 hX eX6_chargeMove_6 lV_X6_68 ok_MX5_chargeMove ⟨by decide, rfl⟩ rfl ⟨rfl, Nat.le_of_ble_eq_true rfl⟩ (Nat.le_of_ble_eq_true rfl) (c_X5_chargeMove hp hr) rfl ?_
  try simp only [Int.toNat_natCast, Int.toNat_zero, Int.reduceToNat]
  exact v_return hX hR eX6_chargeMove_9 rfl (hq)
