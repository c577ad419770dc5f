/-! leaves of Roll, Pupil, Project -/
theorem inN.lt {h : Hp} {p : Int} (hI : RI h) (hp : inN h p) : 0 ≤ p ∧ p < 8 := ⟨hp.1, by have := hp.2; have := hI.n; omega⟩
theorem inQ.lt {h : Hp} {p : Int} (hI : RI h) (hp : inQ h p) : 0 ≤ p ∧ p < 5 := ⟨hp.1, by have := hp.2; have := hI.q; omega⟩
set_option maxHeartbeats 2000000 in
set_option maxRecDepth 20000 in
theorem c_X4_scoreOf {d : Nat} {h : Hp} {p : Int} (hI : RI h) (hp : inN h p) : Fn (d + 2) MX4_scoreOf [mA 1, mI p] h (some (mI (h (23 + p.toNat) 3))) h := by
  intro Q hq X hX hR
  have hp8 := hp.lt hI
  show VW X 0 [some (mA 1), some (mI p), none] [] h
  refine v_aload_n hX eX4_scoreOf_0 rfl ?_
  refine v_iload_n hX eX4_scoreOf_1 rfl ?_
  refine v_fnV hX eX4_scoreOf_2 lV_X4_59 ok_MX4_pupilOf ⟨by decide, rfl⟩ rfl ⟨rfl, Nat.le_of_ble_eq_true rfl⟩ (Nat.le_of_ble_eq_true rfl) (c_X4_pupilOf hI hp) rfl ?_
  try simp only [Int.toNat_natCast, Int.toNat_zero, Int.reduceToNat]
  refine v_astore_n hX eX4_scoreOf_5 rfl rfl ?_
  refine v_aload_n hX eX4_scoreOf_6 rfl ?_
  refine v_ifnonnull hX eX4_scoreOf_7 (tgt := 14) rfl ?_
  refine v_aload_n hX eX4_scoreOf_14 rfl ?_
  refine v_getI hX eX4_scoreOf_15 fi_X4_63 (OB_pu (by omega)) ?_
  exact v_ireturn hX hR eX4_scoreOf_18 rfl (hq)
set_option maxHeartbeats 2000000 in
set_option maxRecDepth 20000 in
theorem c_X4_addScore {d : Nat} {h : Hp} {p m : Int} (hI : RI h) (hp : inN h p) : Fn (d + 2) MX4_addScore [mA 1, mI p, mI m] h none (up h (23 + p.toNat) 3 (h (23 + p.toNat) 3 + m)) := by
  intro Q hq X hX hR
  have hp8 := hp.lt hI
  show VW X 0 [some (mA 1), some (mI p), some (mI m), none] [] h
  refine v_aload_n hX eX4_addScore_0 rfl ?_
  refine v_iload_n hX eX4_addScore_1 rfl ?_
  refine v_fnV hX eX4_addScore_2 lV_X4_59 ok_MX4_pupilOf ⟨by decide, rfl⟩ rfl ⟨rfl, Nat.le_of_ble_eq_true rfl⟩ (Nat.le_of_ble_eq_true rfl) (c_X4_pupilOf hI hp) rfl ?_
  try simp only [Int.toNat_natCast, Int.toNat_zero, Int.reduceToNat]
  refine v_astore_n hX eX4_addScore_5 rfl rfl ?_
  refine v_aload_n hX eX4_addScore_6 rfl ?_
  refine v_ifnull hX eX4_addScore_7 ?_
  refine v_aload_n hX eX4_addScore_10 rfl ?_
  refine v_dup hX eX4_addScore_11 rfl ?_
  refine v_getI hX eX4_addScore_12 fi_X4_63 (OB_pu (by omega)) ?_
  refine v_iload_n hX eX4_addScore_15 rfl ?_
  refine v_iadd hX eX4_addScore_16 ?_
  refine v_putI hX eX4_addScore_17 fi_X4_63 (OB_pu (by omega)) ?_
  exact v_return hX hR eX4_addScore_20 rfl (hq)
def frB (h : Hp) (a b : Nat) : Bool := (h (23 + a) 4).toNat.testBit b
def apB (h : Hp) (a b : Nat) : Bool := (h (23 + a) 5).toNat.testBit b
theorem cast_toNat {z : Int} (h : 0 ≤ z) : z = ((z.toNat : Nat) : Int) := by omega
set_option maxHeartbeats 2000000 in
set_option maxRecDepth 20000 in
theorem c_X4_areFriends {d : Nat} {h : Hp} {a b : Int} (hI : RI h) (ha : inN h a) (hb : inN h b) : Fn (d + 2) MX4_areFriends [mA 1, mI a, mI b] h (some (mI (b01 (frB h a.toNat b.toNat = true)))) h := by
  intro Q hq X hX hR
  have ha8 := ha.lt hI
  have hb8 := hb.lt hI
  have hf := (hI.pu (p := a.toNat) (by omega)).2.2.2.1
  have e : band (bshr (h (23 + a.toNat) 4) b) 1 = if frB h a.toNat b.toNat then 1 else 0 := by
    have := bitq (g := (h (23 + a.toNat) 4).toNat) (i := b.toNat) (by omega) (by omega)
    rw [← cast_toNat hf.1, ← cast_toNat hb8.1] at this
    exact this
  have e2 : rng (band (bshr (h (23 + a.toNat) 4) b) 1) := by rw [e]; split <;> decide
  show VW X 0 [some (mA 1), some (mI a), some (mI b), none] [] h
  refine v_aload_n hX eX4_areFriends_0 rfl ?_
  refine v_iload_n hX eX4_areFriends_1 rfl ?_
  refine v_fnV hX eX4_areFriends_2 lV_X4_59 ok_MX4_pupilOf ⟨by decide, rfl⟩ rfl ⟨rfl, Nat.le_of_ble_eq_true rfl⟩ (Nat.le_of_ble_eq_true rfl) (c_X4_pupilOf hI ha) rfl ?_
  try simp only [Int.toNat_natCast, Int.toNat_zero, Int.reduceToNat]
  refine v_astore_n hX eX4_areFriends_5 rfl rfl ?_
  refine v_aload_n hX eX4_areFriends_6 rfl ?_
  refine v_ifnull hX eX4_areFriends_7 ?_
  refine v_aload_n hX eX4_areFriends_10 rfl ?_
  refine v_iload_n hX eX4_areFriends_11 rfl ?_
  refine v_fnV hX eX4_areFriends_12 lV_X4_52 ok_MX4_isPupil ⟨by decide, rfl⟩ rfl ⟨rfl, Nat.le_of_ble_eq_true rfl⟩ (Nat.le_of_ble_eq_true rfl) (c_X4_isPupil hI ⟨by omega, by omega⟩) rfl ?_
  try simp only [Int.toNat_natCast, Int.toNat_zero, Int.reduceToNat]
  refine v_ifB_eq hX eX4_areFriends_15 (tgt := 33) rfl (fun c15 => False.elim (c15 hb)) (fun c15 => ?_)
  refine v_aload_n hX eX4_areFriends_18 rfl ?_
  refine v_getI hX eX4_areFriends_19 fi_X4_66 (OB_pu (by omega)) ?_
  refine v_iload_n hX eX4_areFriends_22 rfl ?_
  refine v_ishr hX eX4_areFriends_23 ?_
  refine v_iconst hX eX4_areFriends_24 ?_
  refine v_iand hX eX4_areFriends_25 ?_
  refine v_if_eq hX eX4_areFriends_26 (tgt := 33) rfl e2 (fun c26 => ?_) (fun c26 => ?_)
  · refine v_iconst hX eX4_areFriends_33 ?_
    exact v_zreturn hX hR eX4_areFriends_34 rfl (by omega) (q_f (fun q => by rw [e, q] at c26; exact absurd c26 (by decide)) hq)
  · refine v_iconst hX eX4_areFriends_29 ?_
    refine v_goto hX eX4_areFriends_30 (tgt := 34) rfl ?_
    exact v_zreturn hX hR eX4_areFriends_34 rfl (by omega) (q_t (Classical.byContradiction (fun q => c26 (by rw [e, if_neg q]))) hq)
def prF (h : Hp) (p : Nat) : Bool := decide (h (23 + p) 6 = 1)
set_option maxHeartbeats 2000000 in
set_option maxRecDepth 20000 in
theorem c_X4_presentBits {d : Nat} {h : Hp} (hI : RI h) : Fn d MX4_presentBits [mA 1] h (some (mI (bs (prF h) (h 1 3).toNat : Nat))) h := by
  intro Q hq X hX hR
  have hn := hI.n
  show VW X 0 [some (mA 1), none, none] [] h
  have loop : ∀ (i : Nat), i ≤ (h 1 3).toNat → VW X 4 [some (mA 1), some (mI (bs (prF h) i : Nat)), some (mI i)] [] h := by
    refine loop_up _ ?_ ?_
    · refine v_iload_n hX eX4_presentBits_4 rfl ?_
      refine v_aload_n hX eX4_presentBits_5 rfl ?_
      refine v_getI hX eX4_presentBits_6 fi_X4_29 ⟨by decide, rfl⟩ ?_
      refine v_icmp_ge hX eX4_presentBits_9 (tgt := 36) rfl ⟨by omega, by omega⟩ ⟨by omega, by omega⟩ (fun c9 => ?_) (fun c9 => False.elim ((by omega)))
      refine v_iload_n hX eX4_presentBits_36 rfl ?_
      exact v_ireturn hX hR eX4_presentBits_37 rfl (hq)
    · intro i hi ih
      have hz := (hI.pu (p := i) (by omega)).2.2.2.2.2.1
      have hb := bs_lt8 (prF h) (n := i) (by omega)
      refine v_iload_n hX eX4_presentBits_4 rfl ?_
      refine v_aload_n hX eX4_presentBits_5 rfl ?_
      refine v_getI hX eX4_presentBits_6 fi_X4_29 ⟨by decide, rfl⟩ ?_
      refine v_icmp_ge hX eX4_presentBits_9 (tgt := 36) rfl ⟨by omega, by omega⟩ ⟨by omega, by omega⟩ (fun c9 => False.elim ((by omega))) (fun c9 => ?_)
      refine v_aload_n hX eX4_presentBits_12 rfl ?_
      refine v_getA hX eX4_presentBits_13 fi_X4_11 ⟨by decide, rfl⟩ rfl ?_
      refine v_iload_n hX eX4_presentBits_16 rfl ?_
      refine v_aaldP hX eX4_presentBits_17 ⟨by decide, rfl⟩ ⟨by omega, by omega⟩ (RF_pu ⟨by omega, by omega⟩) ?_
      try simp only [Int.toNat_natCast, Int.toNat_zero, Int.reduceToNat]
      refine v_getZ hX eX4_presentBits_18 fi_X4_69 (OB_pu (by omega)) ?_
      refine v_if_eq hX eX4_presentBits_21 (tgt := 30) rfl ⟨by omega, by omega⟩ (fun c21 => ?_) (fun c21 => ?_)
      · have e : bs (prF h) (i + 1) = bs (prF h) i := by
          rw [bs, show prF h i = false from by simp [prF, c21]]
          simp
        rw [e] at ih
        refine v_iinc hX eX4_presentBits_30 rfl rfl rfl ?_
        exact v_goto hX eX4_presentBits_33 (tgt := 4) rfl ih
      · refine v_iload_n hX eX4_presentBits_24 rfl ?_
        refine v_iconst hX eX4_presentBits_25 ?_
        refine v_iload_n hX eX4_presentBits_26 rfl ?_
        refine v_ishl hX eX4_presentBits_27 ?_
        refine v_ior hX eX4_presentBits_28 ?_
        rw [wb_put hb (by omega)]
        refine v_istore_n hX eX4_presentBits_29 rfl rfl ?_
        have e : bs (prF h) (i + 1) = bs (prF h) i ||| 2 ^ i := by
          rw [bs, if_pos (show prF h i = true from by simp [prF]; omega)]
        rw [e] at ih
        refine v_iinc hX eX4_presentBits_30 rfl rfl rfl ?_
        exact v_goto hX eX4_presentBits_33 (tgt := 4) rfl ih
  refine v_iconst hX eX4_presentBits_0 ?_
  refine v_istore_n hX eX4_presentBits_1 rfl rfl ?_
  refine v_iconst hX eX4_presentBits_2 ?_
  refine v_istore_n hX eX4_presentBits_3 rfl rfl ?_
  exact loop 0 (by omega)
def onF (h : Hp) (q : Nat) : Bool := decide (h (39 + q) 5 = 1)
set_option maxHeartbeats 2000000 in
set_option maxRecDepth 20000 in
theorem c_X4_offeredCount {d : Nat} {h : Hp} (hI : RI h) : Fn d MX4_offeredCount [mA 1] h (some (mI (cntF (onF h) (h 1 4).toNat : Nat))) h := by
  intro Q hq X hX hR
  have hn := hI.q
  show VW X 0 [some (mA 1), none, none] [] h
  have loop : ∀ (i : Nat), i ≤ (h 1 4).toNat → VW X 4 [some (mA 1), some (mI (cntF (onF h) i : Nat)), some (mI i)] [] h := by
    refine loop_up _ ?_ ?_
    · refine v_iload_n hX eX4_offeredCount_4 rfl ?_
      refine v_aload_n hX eX4_offeredCount_5 rfl ?_
      refine v_getI hX eX4_offeredCount_6 fi_X4_36 ⟨by decide, rfl⟩ ?_
      refine v_icmp_ge hX eX4_offeredCount_9 (tgt := 33) rfl ⟨by omega, by omega⟩ ⟨by omega, by omega⟩ (fun c9 => ?_) (fun c9 => False.elim ((by omega)))
      refine v_iload_n hX eX4_offeredCount_33 rfl ?_
      exact v_ireturn hX hR eX4_offeredCount_34 rfl (hq)
    · intro i hi ih
      have hz := (hI.pr (p := i) (by omega)).2.2.2.2.2.1
      refine v_iload_n hX eX4_offeredCount_4 rfl ?_
      refine v_aload_n hX eX4_offeredCount_5 rfl ?_
      refine v_getI hX eX4_offeredCount_6 fi_X4_36 ⟨by decide, rfl⟩ ?_
      refine v_icmp_ge hX eX4_offeredCount_9 (tgt := 33) rfl ⟨by omega, by omega⟩ ⟨by omega, by omega⟩ (fun c9 => False.elim ((by omega))) (fun c9 => ?_)
      refine v_aload_n hX eX4_offeredCount_12 rfl ?_
      refine v_getA hX eX4_offeredCount_13 fi_X4_19 ⟨by decide, rfl⟩ rfl ?_
      refine v_iload_n hX eX4_offeredCount_16 rfl ?_
      refine v_aaldQ hX eX4_offeredCount_17 ⟨by decide, rfl⟩ ⟨by omega, by omega⟩ (RF_pr ⟨by omega, by omega⟩) ?_
      try simp only [Int.toNat_natCast, Int.toNat_zero, Int.reduceToNat]
      refine v_getZ hX eX4_offeredCount_18 fi_X4_73 (OB_pr (by omega)) ?_
      refine v_if_eq hX eX4_offeredCount_21 (tgt := 27) rfl ⟨by omega, by omega⟩ (fun c21 => ?_) (fun c21 => ?_)
      · rw [show cntF (onF h) (i + 1) = cntF (onF h) i from by simp [cntF, onF, c21]] at ih
        refine v_iinc hX eX4_offeredCount_27 rfl rfl rfl ?_
        exact v_goto hX eX4_offeredCount_30 (tgt := 4) rfl ih
      · refine v_iinc hX eX4_offeredCount_24 rfl rfl rfl ?_
        rw [show cntF (onF h) (i + 1) = cntF (onF h) i + 1 from by rw [cntF, if_pos (show onF h i = true from by simp [onF]; omega)]] at ih
        refine v_iinc hX eX4_offeredCount_27 rfl rfl rfl ?_
        exact v_goto hX eX4_offeredCount_30 (tgt := 4) rfl ih
  refine v_iconst hX eX4_offeredCount_0 ?_
  refine v_istore_n hX eX4_offeredCount_1 rfl rfl ?_
  refine v_iconst hX eX4_offeredCount_2 ?_
  refine v_istore_n hX eX4_offeredCount_3 rfl rfl ?_
  exact loop 0 (by omega)
set_option maxHeartbeats 2000000 in
set_option maxRecDepth 20000 in
theorem c_X4_addPupil_N {d : Nat} {h : Hp} {k : Int} (hI : RI h) (hn8 : h 1 3 = 8) : Fn d MX4_addPupil [mA 1, mI k] h (some (mI (-1))) h := by
  intro Q hq X hX hR
  show VW X 0 [some (mA 1), some (mI k), none] [] h
  refine v_aload_n hX eX4_addPupil_0 rfl ?_
  refine v_getI hX eX4_addPupil_1 fi_X4_29 ⟨by decide, rfl⟩ ?_
  refine v_bipush hX eX4_addPupil_4 (by decide) ?_
  refine v_icmp_lt hX eX4_addPupil_6 (tgt := 11) rfl ⟨by omega, by omega⟩ ⟨by omega, by omega⟩ (fun c6 => False.elim ((by omega))) (fun c6 => ?_)
  refine v_iconst hX eX4_addPupil_9 ?_
  exact v_ireturn hX hR eX4_addPupil_10 rfl (hq)
set_option maxHeartbeats 2000000 in
set_option maxRecDepth 20000 in
theorem c_X4_addPupil {d : Nat} {h : Hp} {k : Int} (hI : RI h) (hn8 : h 1 3 < 8) : Fn d MX4_addPupil [mA 1, mI k] h (some (mI (h 1 3))) (up (up (up h (23 + (h 1 3).toNat) 1 k) 10 (h 1 3).toNat (h 1 3)) 1 3 (h 1 3 + 1)) := by
  intro Q hq X hX hR
  have hn := hI.n
  show VW X 0 [some (mA 1), some (mI k), none] [] h
  refine v_aload_n hX eX4_addPupil_0 rfl ?_
  refine v_getI hX eX4_addPupil_1 fi_X4_29 ⟨by decide, rfl⟩ ?_
  refine v_bipush hX eX4_addPupil_4 (by decide) ?_
  refine v_icmp_lt hX eX4_addPupil_6 (tgt := 11) rfl ⟨by omega, by omega⟩ ⟨by omega, by omega⟩ (fun c6 => ?_) (fun c6 => False.elim ((by omega)))
  refine v_aload_n hX eX4_addPupil_11 rfl ?_
  refine v_getI hX eX4_addPupil_12 fi_X4_29 ⟨by decide, rfl⟩ ?_
  refine v_istore_n hX eX4_addPupil_15 rfl rfl ?_
  refine v_aload_n hX eX4_addPupil_16 rfl ?_
  refine v_getA hX eX4_addPupil_17 fi_X4_11 ⟨by decide, rfl⟩ rfl ?_
  refine v_iload_n hX eX4_addPupil_20 rfl ?_
  refine v_aaldP hX eX4_addPupil_21 ⟨by decide, rfl⟩ ⟨by omega, by omega⟩ (RF_pu ⟨by omega, by omega⟩) ?_
  try simp only [Int.toNat_natCast, Int.toNat_zero, Int.reduceToNat]
  refine v_iload_n hX eX4_addPupil_22 rfl ?_
  refine v_putI hX eX4_addPupil_23 fi_X4_33 (OB_pu (by omega)) ?_
  refine v_aload_n hX eX4_addPupil_26 rfl ?_
  refine v_getA hX eX4_addPupil_27 fi_X4_23 ⟨by decide, rfl⟩ rfl ?_
  refine v_iload_n hX eX4_addPupil_30 rfl ?_
  refine v_iload_n hX eX4_addPupil_31 rfl ?_
  refine v_iast hX eX4_addPupil_32 (by first | exact ⟨by decide, rfl⟩ | exact AR_rk (by omega)) ⟨by omega, by omega⟩ ?_
  try simp only [Int.toNat_natCast, Int.toNat_zero, Int.reduceToNat]
  refine v_aload_n hX eX4_addPupil_33 rfl ?_
  refine v_dup hX eX4_addPupil_34 rfl ?_
  refine v_getI hX eX4_addPupil_35 fi_X4_29 ⟨by decide, rfl⟩ ?_
  rw [up_ob (by omega), up_ob (by omega)]
  refine v_iconst hX eX4_addPupil_38 ?_
  refine v_iadd hX eX4_addPupil_39 ?_
  refine v_putI hX eX4_addPupil_40 fi_X4_29 ⟨by decide, rfl⟩ ?_
  refine v_iload_n hX eX4_addPupil_43 rfl ?_
  exact v_ireturn hX hR eX4_addPupil_44 rfl (hq)
def newPr (h : Hp) (k l m s ld : Int) : Hp := up (up (up (up (up (up h (39 + (h 1 4).toNat) 0 k) (39 + (h 1 4).toNat) 1 l) (39 + (h 1 4).toNat) 2 m) (39 + (h 1 4).toNat) 3 s) (39 + (h 1 4).toNat) 4 ld) 1 4 (h 1 4 + 1)
set_option maxHeartbeats 2000000 in
set_option maxRecDepth 20000 in
theorem c_X4_addProject_N {d : Nat} {h : Hp} {k l m s ld : Int} (hI : RI h) (hn8 : h 1 4 = 5) : Fn d MX4_addProject [mA 1, mI k, mI l, mI m, mI s, mI ld] h (some (mI (-1))) h := by
  intro Q hq X hX hR
  show VW X 0 [some (mA 1), some (mI k), some (mI l), some (mI m), some (mI s), some (mI ld), none, none] [] h
  refine v_aload_n hX eX4_addProject_0 rfl ?_
  refine v_getI hX eX4_addProject_1 fi_X4_36 ⟨by decide, rfl⟩ ?_
  refine v_iconst hX eX4_addProject_4 ?_
  refine v_icmp_lt hX eX4_addProject_5 (tgt := 10) rfl ⟨by omega, by omega⟩ ⟨by omega, by omega⟩ (fun c5 => False.elim ((by omega))) (fun c5 => ?_)
  refine v_iconst hX eX4_addProject_8 ?_
  exact v_ireturn hX hR eX4_addProject_9 rfl (hq)
set_option maxHeartbeats 2000000 in
set_option maxRecDepth 20000 in
theorem c_X4_addProject {d : Nat} {h : Hp} {k l m s ld : Int} (hI : RI h) (hn8 : h 1 4 < 5) : Fn d MX4_addProject [mA 1, mI k, mI l, mI m, mI s, mI ld] h (some (mI (h 1 4))) (newPr h k l m s ld) := by
  intro Q hq X hX hR
  have hn := hI.q
  show VW X 0 [some (mA 1), some (mI k), some (mI l), some (mI m), some (mI s), some (mI ld), none, none] [] h
  refine v_aload_n hX eX4_addProject_0 rfl ?_
  refine v_getI hX eX4_addProject_1 fi_X4_36 ⟨by decide, rfl⟩ ?_
  refine v_iconst hX eX4_addProject_4 ?_
  refine v_icmp_lt hX eX4_addProject_5 (tgt := 10) rfl ⟨by omega, by omega⟩ ⟨by omega, by omega⟩ (fun c5 => ?_) (fun c5 => False.elim ((by omega)))
  refine v_aload_n hX eX4_addProject_10 rfl ?_
  refine v_getI hX eX4_addProject_11 fi_X4_36 ⟨by decide, rfl⟩ ?_
  refine v_istore hX eX4_addProject_14 rfl rfl ?_
  refine v_aload_n hX eX4_addProject_16 rfl ?_
  refine v_getA hX eX4_addProject_17 fi_X4_19 ⟨by decide, rfl⟩ rfl ?_
  refine v_iload hX eX4_addProject_20 rfl ?_
  refine v_aaldQ hX eX4_addProject_22 ⟨by decide, rfl⟩ ⟨by omega, by omega⟩ (RF_pr ⟨by omega, by omega⟩) ?_
  try simp only [Int.toNat_natCast, Int.toNat_zero, Int.reduceToNat]
  refine v_astore hX eX4_addProject_23 rfl rfl ?_
  refine v_aload hX eX4_addProject_25 rfl ?_
  refine v_iload_n hX eX4_addProject_27 rfl ?_
  refine v_putI hX eX4_addProject_28 fi_X4_39 (OB_pr (by omega)) ?_
  refine v_aload hX eX4_addProject_31 rfl ?_
  refine v_iload_n hX eX4_addProject_33 rfl ?_
  refine v_putI hX eX4_addProject_34 fi_X4_42 (OB_pr (by omega)) ?_
  refine v_aload hX eX4_addProject_37 rfl ?_
  refine v_iload_n hX eX4_addProject_39 rfl ?_
  refine v_putI hX eX4_addProject_40 fi_X4_45 (OB_pr (by omega)) ?_
  refine v_aload hX eX4_addProject_43 rfl ?_
  refine v_iload hX eX4_addProject_45 rfl ?_
  refine v_putI hX eX4_addProject_47 fi_X4_48 (OB_pr (by omega)) ?_
  refine v_aload hX eX4_addProject_50 rfl ?_
  refine v_iload hX eX4_addProject_52 rfl ?_
  refine v_putI hX eX4_addProject_54 fi_X4_49 (OB_pr (by omega)) ?_
  refine v_aload_n hX eX4_addProject_57 rfl ?_
  refine v_dup hX eX4_addProject_58 rfl ?_
  refine v_getI hX eX4_addProject_59 fi_X4_36 ⟨by decide, rfl⟩ ?_
  rw [up_ob (by omega), up_ob (by omega), up_ob (by omega), up_ob (by omega), up_ob (by omega)]
  refine v_iconst hX eX4_addProject_62 ?_
  refine v_iadd hX eX4_addProject_63 ?_
  refine v_putI hX eX4_addProject_64 fi_X4_36 ⟨by decide, rfl⟩ ?_
  refine v_iload hX eX4_addProject_67 rfl ?_
  exact v_ireturn hX hR eX4_addProject_69 rfl (hq)
def swp (h : Hp) (k i j : Nat) : Hp := up (up h k i (h k j)) k j (h k i)
set_option maxHeartbeats 2000000 in
set_option maxRecDepth 20000 in
theorem c_X7_exch {d : Nat} {h : Hp} {k n : Nat} {i j : Int} (ha : AR k 0 n) (hi : 0 ≤ i ∧ i < n) (hj : 0 ≤ j ∧ j < n) : Fn d MX7_exchangePlaces [mA k, mI i, mI j] h none (swp h k i.toNat j.toNat) := by
  intro Q hq X hX hR
  have hl := ha.len
  show VW X 0 [some (mA k), some (mI i), some (mI j), none] [] h
  refine v_iload_n hX eX7_exchangePlaces_0 rfl ?_
  refine v_if_lt hX eX7_exchangePlaces_1 (tgt := 20) rfl ⟨by omega, by omega⟩ (fun c => False.elim (by omega)) (fun _ => ?_)
  refine v_iload_n hX eX7_exchangePlaces_4 rfl ?_
  refine v_aload_n hX eX7_exchangePlaces_5 rfl ?_
  refine v_alen hX eX7_exchangePlaces_6 ha ?_
  refine v_icmp_ge hX eX7_exchangePlaces_7 (tgt := 20) rfl ⟨by omega, by omega⟩ ⟨by omega, by omega⟩ (fun c => False.elim (by omega)) (fun _ => ?_)
  refine v_iload_n hX eX7_exchangePlaces_10 rfl ?_
  refine v_if_lt hX eX7_exchangePlaces_11 (tgt := 20) rfl ⟨by omega, by omega⟩ (fun c => False.elim (by omega)) (fun _ => ?_)
  refine v_iload_n hX eX7_exchangePlaces_14 rfl ?_
  refine v_aload_n hX eX7_exchangePlaces_15 rfl ?_
  refine v_alen hX eX7_exchangePlaces_16 ha ?_
  refine v_icmp_lt hX eX7_exchangePlaces_17 (tgt := 21) rfl ⟨by omega, by omega⟩ ⟨by omega, by omega⟩ (fun c => ?_) (fun c => False.elim (by omega))
  refine v_aload_n hX eX7_exchangePlaces_21 rfl ?_
  refine v_iload_n hX eX7_exchangePlaces_22 rfl ?_
  refine v_iald hX eX7_exchangePlaces_23 ha hi ?_
  refine v_istore_n hX eX7_exchangePlaces_24 rfl rfl ?_
  refine v_aload_n hX eX7_exchangePlaces_25 rfl ?_
  refine v_iload_n hX eX7_exchangePlaces_26 rfl ?_
  refine v_aload_n hX eX7_exchangePlaces_27 rfl ?_
  refine v_iload_n hX eX7_exchangePlaces_28 rfl ?_
  refine v_iald hX eX7_exchangePlaces_29 ha hj ?_
  refine v_iast hX eX7_exchangePlaces_30 ha hi ?_
  refine v_aload_n hX eX7_exchangePlaces_31 rfl ?_
  refine v_iload_n hX eX7_exchangePlaces_32 rfl ?_
  refine v_iload_n hX eX7_exchangePlaces_33 rfl ?_
  refine v_iast hX eX7_exchangePlaces_34 ha hj ?_
  exact v_return hX hR eX7_exchangePlaces_35 rfl hq
def rkI (h : Hp) (p : Nat) (j : Int) : Int := if 0 ≤ j ∧ j < 5 then h (31 + p) j.toNat else 6
set_option maxHeartbeats 2000000 in
set_option maxRecDepth 20000 in
theorem c_X3_rankIn {d : Nat} {h : Hp} {p : Nat} {j : Int} (hp : p < 8) (hj : rng j) : Fn d MX3_rankIn [mA (23 + p), mI j] h (some (mI (rkI h p j))) h := by
  intro Q hq X hX hR
  show VW X 0 [some (mA (23 + p)), some (mI j)] [] h
  refine v_iload_n hX eX3_rankIn_0 rfl ?_
  refine v_if_lt hX eX3_rankIn_1 (tgt := 13) rfl ⟨by omega, by omega⟩ (fun c1 => ?_) (fun c1 => ?_)
  · refine v_bipush hX eX3_rankIn_13 (by decide) ?_
    refine v_goto hX eX3_rankIn_15 (tgt := 24) rfl ?_
    exact v_ireturn hX hR eX3_rankIn_24 rfl (q_i (if_neg (by omega)) hq)
  · refine v_iload_n hX eX3_rankIn_4 rfl ?_
    refine v_aload_n hX eX3_rankIn_5 rfl ?_
    refine v_getA hX eX3_rankIn_6 fi_X3_9 (OB_pu (by omega)) (RF_rk (by omega)) ?_
    refine v_alen hX eX3_rankIn_9 (by first | exact ⟨by decide, rfl⟩ | exact AR_rk (by omega)) ?_
    refine v_icmp_lt hX eX3_rankIn_10 (tgt := 18) rfl ⟨by omega, by omega⟩ ⟨by omega, by omega⟩ (fun c10 => ?_) (fun c10 => ?_)
    · refine v_aload_n hX eX3_rankIn_18 rfl ?_
      refine v_getA hX eX3_rankIn_19 fi_X3_9 (OB_pu (by omega)) (RF_rk (by omega)) ?_
      refine v_iload_n hX eX3_rankIn_22 rfl ?_
      refine v_iald hX eX3_rankIn_23 (by first | exact ⟨by decide, rfl⟩ | exact AR_rk (by omega)) ⟨by omega, by omega⟩ ?_
      try simp only [Int.toNat_natCast, Int.toNat_zero, Int.reduceToNat]
      exact v_ireturn hX hR eX3_rankIn_24 rfl (q_i (if_pos (by omega)) hq)
    · refine v_bipush hX eX3_rankIn_13 (by decide) ?_
      refine v_goto hX eX3_rankIn_15 (tgt := 24) rfl ?_
      exact v_ireturn hX hR eX3_rankIn_24 rfl (q_i (if_neg (by omega)) hq)
def addW (h : Hp) (p j : Nat) : Hp := up (up h (23 + p) 2 (h (23 + p) 2 + 1)) (31 + p) j (h (23 + p) 2 + 1)
set_option maxHeartbeats 2000000 in
set_option maxRecDepth 20000 in
theorem c_X3_addWish {d : Nat} {h : Hp} {p : Nat} {j : Int} (hI : RI h) (hp : p < 8) (hj : 0 ≤ j ∧ j < 5) (h6 : h (31 + p) j.toNat = 6) : Fn d MX3_addWish [mA (23 + p), mI j] h (some (mI 1)) (addW h p j.toNat) := by
  intro Q hq X hX hR
  have hw := (hI.pu hp).2.1
  show VW X 0 [some (mA (23 + p)), some (mI j)] [] h
  refine v_iload_n hX eX3_addWish_0 rfl ?_
  refine v_if_lt hX eX3_addWish_1 (tgt := 24) rfl ⟨by omega, by omega⟩ (fun c1 => False.elim ((by omega))) (fun c1 => ?_)
  refine v_iload_n hX eX3_addWish_4 rfl ?_
  refine v_aload_n hX eX3_addWish_5 rfl ?_
  refine v_getA hX eX3_addWish_6 fi_X3_9 (OB_pu (by omega)) (RF_rk (by omega)) ?_
  refine v_alen hX eX3_addWish_9 (by first | exact ⟨by decide, rfl⟩ | exact AR_rk (by omega)) ?_
  refine v_icmp_ge hX eX3_addWish_10 (tgt := 24) rfl ⟨by omega, by omega⟩ ⟨by omega, by omega⟩ (fun c10 => False.elim ((by omega))) (fun c10 => ?_)
  refine v_aload_n hX eX3_addWish_13 rfl ?_
  refine v_getA hX eX3_addWish_14 fi_X3_9 (OB_pu (by omega)) (RF_rk (by omega)) ?_
  refine v_iload_n hX eX3_addWish_17 rfl ?_
  refine v_iald hX eX3_addWish_18 (by first | exact ⟨by decide, rfl⟩ | exact AR_rk (by omega)) ⟨by omega, by omega⟩ ?_
  try simp only [Int.toNat_natCast, Int.toNat_zero, Int.reduceToNat]
  refine v_bipush hX eX3_addWish_19 (by decide) ?_
  refine v_icmp_eq hX eX3_addWish_21 (tgt := 26) rfl ⟨by rw [h6]; decide, by rw [h6]; decide⟩ ⟨by decide, by decide⟩ (fun c21 => ?_) (fun c21 => False.elim (c21 h6))
  refine v_aload_n hX eX3_addWish_26 rfl ?_
  refine v_dup hX eX3_addWish_27 rfl ?_
  refine v_getI hX eX3_addWish_28 fi_X3_19 (OB_pu (by omega)) ?_
  refine v_iconst hX eX3_addWish_31 ?_
  refine v_iadd hX eX3_addWish_32 ?_
  refine v_putI hX eX3_addWish_33 fi_X3_19 (OB_pu (by omega)) ?_
  refine v_aload_n hX eX3_addWish_36 rfl ?_
  refine v_getA hX eX3_addWish_37 fi_X3_9 (OB_pu (by omega)) (RF_rk (by omega)) ?_
  refine v_iload_n hX eX3_addWish_40 rfl ?_
  refine v_aload_n hX eX3_addWish_41 rfl ?_
  refine v_getI hX eX3_addWish_42 fi_X3_19 (OB_pu (by omega)) ?_
  rw [up_same]
  refine v_iast hX eX3_addWish_45 (by first | exact ⟨by decide, rfl⟩ | exact AR_rk (by omega)) ⟨by omega, by omega⟩ ?_
  try simp only [Int.toNat_natCast, Int.toNat_zero, Int.reduceToNat]
  refine v_iconst hX eX3_addWish_46 ?_
  exact v_zreturn hX hR eX3_addWish_47 rfl (by omega) (hq)
set_option maxHeartbeats 2000000 in
set_option maxRecDepth 20000 in
theorem c_X3_addWish_F {d : Nat} {h : Hp} {p : Nat} {j : Int} (hI : RI h) (hp : p < 8) (hr : rng j) (hj : ¬ (0 ≤ j ∧ j < 5 ∧ h (31 + p) j.toNat = 6)) : Fn d MX3_addWish [mA (23 + p), mI j] h (some (mI 0)) h := by
  intro Q hq X hX hR
  have hw := (hI.pu hp).2.2.2.2.2.2
  show VW X 0 [some (mA (23 + p)), some (mI j)] [] h
  refine v_iload_n hX eX3_addWish_0 rfl ?_
  refine v_if_lt hX eX3_addWish_1 (tgt := 24) rfl ⟨by omega, by omega⟩ (fun c1 => ?_) (fun c1 => ?_)
  · refine v_iconst hX eX3_addWish_24 ?_
    exact v_zreturn hX hR eX3_addWish_25 rfl (by omega) (hq)
  · refine v_iload_n hX eX3_addWish_4 rfl ?_
    refine v_aload_n hX eX3_addWish_5 rfl ?_
    refine v_getA hX eX3_addWish_6 fi_X3_9 (OB_pu (by omega)) (RF_rk (by omega)) ?_
    refine v_alen hX eX3_addWish_9 (by first | exact ⟨by decide, rfl⟩ | exact AR_rk (by omega)) ?_
    refine v_icmp_ge hX eX3_addWish_10 (tgt := 24) rfl ⟨by omega, by omega⟩ ⟨by omega, by omega⟩ (fun c10 => ?_) (fun c10 => ?_)
    · refine v_iconst hX eX3_addWish_24 ?_
      exact v_zreturn hX hR eX3_addWish_25 rfl (by omega) (hq)
    · refine v_aload_n hX eX3_addWish_13 rfl ?_
      refine v_getA hX eX3_addWish_14 fi_X3_9 (OB_pu (by omega)) (RF_rk (by omega)) ?_
      refine v_iload_n hX eX3_addWish_17 rfl ?_
      refine v_iald hX eX3_addWish_18 (by first | exact ⟨by decide, rfl⟩ | exact AR_rk (by omega)) ⟨by omega, by omega⟩ ?_
      try simp only [Int.toNat_natCast, Int.toNat_zero, Int.reduceToNat]
      refine v_bipush hX eX3_addWish_19 (by decide) ?_
      have hw2 := hw j.toNat (by omega)
      refine v_icmp_eq hX eX3_addWish_21 (tgt := 26) rfl ⟨by omega, by omega⟩ ⟨by omega, by omega⟩ (fun c21 => False.elim (hj ⟨by omega, by omega, c21⟩)) (fun c21 => ?_)
      refine v_iconst hX eX3_addWish_24 ?_
      exact v_zreturn hX hR eX3_addWish_25 rfl (by omega) (hq)
def clrN (h : Hp) (p i : Nat) : Hp := fun a b => if a = 31 + p ∧ b < i then 6 else up h (23 + p) 2 0 a b
def clr (h : Hp) (p : Nat) : Hp := clrN h p 5
theorem clrN_0 {h : Hp} {p : Nat} : clrN h p 0 = up h (23 + p) 2 0 := by
  funext a b
  simp [clrN]
theorem clrN_s {h : Hp} {p i : Nat} : up (clrN h p i) (31 + p) i 6 = clrN h p (i + 1) := by
  funext a b
  simp only [up, clrN]
  by_cases ha : a = 31 + p
  · subst ha
    by_cases hb : b = i
    · simp [hb]
    · have : (b < i + 1) ↔ b < i := by omega
      simp [hb, this]
  · simp [ha]
set_option maxHeartbeats 2000000 in
set_option maxRecDepth 20000 in
theorem c_X3_clearWishes {d : Nat} {h : Hp} {p : Nat} (hp : p < 8) : Fn d MX3_clearWishes [mA (23 + p)] h none (clr h p) := by
  intro Q hq X hX hR
  show VW X 0 [some (mA (23 + p)), none] [] h
  have loop : ∀ (i : Nat), i ≤ 5 → VW X 7 [some (mA (23 + p)), some (mI i)] [] (clrN h p i) := by
    refine loop_up _ ?_ ?_
    · refine v_iload_n hX eX3_clearWishes_7 rfl ?_
      refine v_aload_n hX eX3_clearWishes_8 rfl ?_
      refine v_getA hX eX3_clearWishes_9 fi_X3_9 (OB_pu (by omega)) (RF_rk (by omega)) ?_
      refine v_alen hX eX3_clearWishes_12 (by first | exact ⟨by decide, rfl⟩ | exact AR_rk (by omega)) ?_
      refine v_icmp_ge hX eX3_clearWishes_13 (tgt := 30) rfl ⟨by omega, by omega⟩ ⟨by omega, by omega⟩ (fun c13 => ?_) (fun c13 => False.elim ((by omega)))
      exact v_return hX hR eX3_clearWishes_30 rfl (hq)
    · intro i hi ih
      refine v_iload_n hX eX3_clearWishes_7 rfl ?_
      refine v_aload_n hX eX3_clearWishes_8 rfl ?_
      refine v_getA hX eX3_clearWishes_9 fi_X3_9 (OB_pu (by omega)) (RF_rk (by omega)) ?_
      refine v_alen hX eX3_clearWishes_12 (by first | exact ⟨by decide, rfl⟩ | exact AR_rk (by omega)) ?_
      refine v_icmp_ge hX eX3_clearWishes_13 (tgt := 30) rfl ⟨by omega, by omega⟩ ⟨by omega, by omega⟩ (fun c13 => False.elim ((by omega))) (fun c13 => ?_)
      refine v_aload_n hX eX3_clearWishes_16 rfl ?_
      refine v_getA hX eX3_clearWishes_17 fi_X3_9 (OB_pu (by omega)) (RF_rk (by omega)) ?_
      refine v_iload_n hX eX3_clearWishes_20 rfl ?_
      refine v_bipush hX eX3_clearWishes_21 (by decide) ?_
      refine v_iast hX eX3_clearWishes_23 (by first | exact ⟨by decide, rfl⟩ | exact AR_rk (by omega)) ⟨by omega, by omega⟩ ?_
      try simp only [Int.toNat_natCast, Int.toNat_zero, Int.reduceToNat]
      rw [clrN_s]
      refine v_iinc hX eX3_clearWishes_24 rfl rfl rfl ?_
      refine v_goto hX eX3_clearWishes_27 (tgt := 7) rfl ?_
      exact ih
  refine v_aload_n hX eX3_clearWishes_0 rfl ?_
  refine v_iconst hX eX3_clearWishes_1 ?_
  refine v_putI hX eX3_clearWishes_2 fi_X3_19 (OB_pu (by omega)) ?_
  refine v_iconst hX eX3_clearWishes_5 ?_
  refine v_istore_n hX eX3_clearWishes_6 rfl rfl ?_
  rw [← clrN_0]
  exact loop 0 (by omega)
