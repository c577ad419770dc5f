/-! lots -/
def setR (h : Hp) (k : Nat) (f : Nat → Int) : Hp := fun a => if a = k then f else h a
theorem setR_same {h : Hp} {k : Nat} {f : Nat → Int} : setR h k f k = f := if_pos rfl
theorem setR_ne {h : Hp} {k a : Nat} {f : Nat → Int} (e : a ≠ k) : setR h k f a = h a := if_neg e
def swF (f : Nat → Int) (i j : Nat) : Nat → Int := fun x => if x = j then f i else if x = i then f j else f x
theorem swp_setR {h : Hp} {k i j : Nat} {f : Nat → Int} : swp (setR h k f) k i j = setR h k (swF f i j) := by
  funext a b
  simp only [swp, up, setR]
  by_cases ha : a = k <;> simp [ha, swF]
def idF (f : Nat → Int) (n : Nat) : Nat → Int := fun x => if x < n then (x : Int) else f x
theorem idF_s {h : Hp} {k n : Nat} {f : Nat → Int} : up (setR h k (idF f n)) k n n = setR h k (idF f (n + 1)) := by
  funext a b
  simp only [up, setR]
  by_cases ha : a = k
  · subst ha
    by_cases hb : b = n
    · simp [hb, idF]
    · have : (b < n + 1) ↔ b < n := by omega
      simp [hb, this, idF]
  · simp [ha]
def nxtR (r : Int) : Int := w32 (r * 1103515245 + 12345)
def lotJ (r : Int) (i : Nat) : Int := irem (bushr r 16) ((i : Int) + 1)
def lotsF : Nat → Int → (Nat → Int) → Nat → Int
  | 0, _, f => f
  | i + 1, r, f => lotsF i (nxtR r) (swF f (i + 1) (lotJ (nxtR r) (i + 1)).toNat)
theorem lotJ_rng (r : Int) {i : Nat} (hi : i < 8) : 0 ≤ lotJ r i ∧ lotJ r i ≤ i := by
  have h1 : ∃ a : Nat, a < 65536 ∧ Int32.ofInt (bushr r 16) = nI a := by
    refine ⟨(Int32.ofInt (bushr r 16)).toBitVec.toNat, ?_, ?_⟩
    · unfold bushr
      rw [oi_of, pk_ushr _ _ 16 (by decide)]
      have := (Int32.ofInt r).toBitVec.isLt
      omega
    · generalize Int32.ofInt (bushr r 16) = x
      apply Int32.toBitVec_inj.mp
      show x.toBitVec = BitVec.ofNat 32 x.toBitVec.toNat
      simp
  obtain ⟨a, ha, e⟩ := h1
  unfold lotJ irem
  rw [e, show ((i : Int) + 1) = ((i + 1 : Nat) : Int) by omega, oi_nat, pk_rem (by omega) (by omega) (by omega), nI_toInt (by have := Nat.mod_lt a (show 0 < i + 1 by omega); omega)]
  have := Nat.mod_lt a (show 0 < i + 1 by omega)
  omega
set_option maxHeartbeats 2000000 in
set_option maxRecDepth 20000 in
theorem c_X4_drawLots {d : Nat} {h : Hp} {r : Int} (hI : RI h) : Fn (d + 1) MX4_drawLots [mA 1, mI r] h none (setR h 10 (lotsF ((h 1 3).toNat - 1) r (idF (h 10) (h 1 3).toNat))) := by
  intro Q hq X hX hR
  have hn := hI.n
  have e1 : ∀ f, setR h 10 f 1 = h 1 := fun f => setR_ne (by decide)
  have loop : ∀ (i : Nat), i < 8 → ∀ (r0 r : Int) (f : Nat → Int), Q none (setR h 10 (lotsF i r f)) → VW X 32 [some (mA 1), some (mI r0), some (mI r), some (mI i)] [] (setR h 10 f) := by
    intro i
    induction i with
    | zero =>
      intro _ r0 r f hq
      refine v_iload_n hX eX4_drawLots_32 rfl ?_
      refine v_iconst hX eX4_drawLots_33 ?_
      refine v_icmp_lt hX eX4_drawLots_34 (tgt := 68) rfl ⟨by omega, by omega⟩ ⟨by omega, by omega⟩ (fun c34 => ?_) (fun c34 => False.elim ((by omega)))
      exact v_return hX hR eX4_drawLots_68 rfl (hq)
    | succ i ih =>
      intro hi r0 r f hq
      have hj := lotJ_rng (nxtR r) (i := i + 1) hi
      refine v_iload_n hX eX4_drawLots_32 rfl ?_
      refine v_iconst hX eX4_drawLots_33 ?_
      refine v_icmp_lt hX eX4_drawLots_34 (tgt := 68) rfl ⟨by omega, by omega⟩ ⟨by omega, by omega⟩ (fun c34 => False.elim ((by omega))) (fun c34 => ?_)
      refine v_iload_n hX eX4_drawLots_37 rfl ?_
      refine v_ldc (z := 1103515245) hX eX4_drawLots_38 k_X4_76 (by decide) ?_
      refine v_imul hX eX4_drawLots_40 ?_
      refine v_sipush hX eX4_drawLots_41 (by decide) ?_
      refine v_iadd hX eX4_drawLots_44 ?_
      refine v_wrap ?_
      rw [show w32 (r * 1103515245 + 12345) = nxtR r from rfl]
      refine v_istore_n hX eX4_drawLots_45 rfl rfl ?_
      refine v_aload_n hX eX4_drawLots_46 rfl ?_
      refine v_getA hX eX4_drawLots_47 fi_X4_23 ⟨by decide, rfl⟩ rfl ?_
      refine v_iload_n hX eX4_drawLots_50 rfl ?_
      refine v_iload_n hX eX4_drawLots_51 rfl ?_
      refine v_bipush hX eX4_drawLots_52 (by decide) ?_
      refine v_iushr hX eX4_drawLots_54 ?_
      refine v_iload_n hX eX4_drawLots_55 rfl ?_
      refine v_iconst hX eX4_drawLots_56 ?_
      refine v_iadd hX eX4_drawLots_57 ?_
      refine v_irem hX eX4_drawLots_58 ⟨by omega, by omega, by omega⟩ ?_
      rw [show irem (bushr (nxtR r) 16) (((i + 1 : Nat) : Int) + 1) = lotJ (nxtR r) (i + 1) from rfl]
      refine v_callN hX rfl eX4_drawLots_59 lN_st lN_in ok_MX7_exchangePlaces ⟨rfl, Nat.le_of_ble_eq_true rfl⟩ (Nat.le_of_ble_eq_true rfl) (c_X7_exch (k := 10) (n := 8) ⟨by decide, rfl⟩ ⟨by omega, by omega⟩ ⟨hj.1, by omega⟩ (fun a b => a = none ∧ b = setR h 10 (swF f (i + 1) (lotJ (nxtR r) (i + 1)).toNat)) ⟨rfl, by rw [Int.toNat_natCast, swp_setR]⟩) rfl (fun a b e => ?_)
      obtain ⟨rfl, rfl⟩ := e
      show VW X 62 _ [] _
      try simp only [Int.toNat_natCast, Int.toNat_zero, Int.reduceToNat]
      refine v_iinc hX eX4_drawLots_62 rfl rfl rfl ?_
      rw [show (((i + 1 : Nat) : Int) + -1) = (i : Int) by omega]
      refine v_goto hX eX4_drawLots_65 (tgt := 32) rfl ?_
      exact ih (by omega) _ _ _ hq
  have loop1 : ∀ i : Nat, i ≤ (h 1 3).toNat → VW X 2 [some (mA 1), some (mI r), some (mI i), none] [] (setR h 10 (idF (h 10) i)) := by
    refine loop_up _ ?_ ?_
    · by_cases h0 : (h 1 3).toNat = 0
      · have e0 : h 1 3 = 0 := by omega
        rw [e0] at hq
        rw [h0]
        refine v_iload_n hX eX4_drawLots_2 rfl ?_
        refine v_aload_n hX eX4_drawLots_3 rfl ?_
        refine v_getI hX eX4_drawLots_4 fi_X4_29 ⟨by decide, rfl⟩ ?_
        rw [e1, e0]
        refine v_icmp_ge hX eX4_drawLots_7 (tgt := 23) rfl ⟨by omega, by omega⟩ ⟨by omega, by omega⟩ (fun c7 => ?_) (fun c7 => False.elim ((by omega)))
        refine v_iload_n hX eX4_drawLots_23 rfl ?_
        refine v_istore_n hX eX4_drawLots_24 rfl rfl ?_
        refine v_aload_n hX eX4_drawLots_25 rfl ?_
        refine v_getI hX eX4_drawLots_26 fi_X4_29 ⟨by decide, rfl⟩ ?_
        rw [e1, e0]
        refine v_iconst hX eX4_drawLots_29 ?_
        refine v_isub hX eX4_drawLots_30 ?_
        refine v_istore_n hX eX4_drawLots_31 rfl rfl ?_
        refine v_iload_n hX eX4_drawLots_32 rfl ?_
        refine v_iconst hX eX4_drawLots_33 ?_
        refine v_icmp_lt hX eX4_drawLots_34 (tgt := 68) rfl ⟨by omega, by omega⟩ ⟨by omega, by omega⟩ (fun c34 => ?_) (fun c34 => False.elim ((by omega)))
        exact v_return hX hR eX4_drawLots_68 rfl (hq)
      · refine v_iload_n hX eX4_drawLots_2 rfl ?_
        refine v_aload_n hX eX4_drawLots_3 rfl ?_
        refine v_getI hX eX4_drawLots_4 fi_X4_29 ⟨by decide, rfl⟩ ?_
        rw [e1]
        refine v_icmp_ge hX eX4_drawLots_7 (tgt := 23) rfl ⟨by omega, by omega⟩ ⟨by omega, by omega⟩ (fun c7 => ?_) (fun c7 => False.elim ((by omega)))
        refine v_iload_n hX eX4_drawLots_23 rfl ?_
        refine v_istore_n hX eX4_drawLots_24 rfl rfl ?_
        refine v_aload_n hX eX4_drawLots_25 rfl ?_
        refine v_getI hX eX4_drawLots_26 fi_X4_29 ⟨by decide, rfl⟩ ?_
        rw [e1]
        refine v_iconst hX eX4_drawLots_29 ?_
        refine v_isub hX eX4_drawLots_30 ?_
        refine v_istore_n hX eX4_drawLots_31 rfl rfl ?_
        rw [show h 1 3 - 1 = (((h 1 3).toNat - 1 : Nat) : Int) by omega]
        exact loop _ (by omega) _ _ _ hq
    · intro i hi ih
      refine v_iload_n hX eX4_drawLots_2 rfl ?_
      refine v_aload_n hX eX4_drawLots_3 rfl ?_
      refine v_getI hX eX4_drawLots_4 fi_X4_29 ⟨by decide, rfl⟩ ?_
      rw [e1]
      refine v_icmp_ge hX eX4_drawLots_7 (tgt := 23) rfl ⟨by omega, by omega⟩ ⟨by omega, by omega⟩ (fun c7 => False.elim ((by omega))) (fun c7 => ?_)
      refine v_aload_n hX eX4_drawLots_10 rfl ?_
      refine v_getA hX eX4_drawLots_11 fi_X4_23 ⟨by decide, rfl⟩ rfl ?_
      refine v_iload_n hX eX4_drawLots_14 rfl ?_
      refine v_iload_n hX eX4_drawLots_15 rfl ?_
      refine v_iast hX eX4_drawLots_16 (by first | exact ⟨by decide, rfl⟩ | exact AR_rk (by omega)) ⟨by omega, by omega⟩ ?_
      try simp only [Int.toNat_natCast, Int.toNat_zero, Int.reduceToNat]
      rw [idF_s]
      refine v_iinc hX eX4_drawLots_17 rfl rfl rfl ?_
      refine v_goto hX eX4_drawLots_20 (tgt := 2) rfl ?_
      exact ih
  have l0 := loop1 0 (by omega)
  rw [show setR h 10 (idF (h 10) 0) = h from by funext a b; by_cases ha : a = 10 <;> simp [setR, idF, ha]] at l0
  show VW X 0 [some (mA 1), some (mI r), none, none] [] h
  refine v_iconst hX eX4_drawLots_0 ?_
  refine v_istore_n hX eX4_drawLots_1 rfl rfl ?_
  exact l0
set_option maxHeartbeats 2000000 in
set_option maxRecDepth 20000 in
theorem c_X7_lots {d : Nat} {h : Hp} {r : Int} (hI : RI h) : Fn (d + 2) MX7_lots [mA 0, mI r] h (some (mI 1)) (setR h 10 (lotsF ((h 1 3).toNat - 1) r (idF (h 10) (h 1 3).toNat))) := by
  intro Q hq X hX hR
  show VW X 0 [some (mA 0), some (mI r)] [] h
  refine v_aload_n hX eX7_lots_0 rfl ?_
  refine v_getA hX eX7_lots_1 fi_X7_10 ⟨by decide, rfl⟩ rfl ?_
  refine v_iload_n hX eX7_lots_4 rfl ?_
  refine v_fnV0 hX eX7_lots_5 lV_X7_97 ok_MX4_drawLots ⟨by decide, rfl⟩ rfl ⟨rfl, Nat.le_of_ble_eq_true rfl⟩ (Nat.le_of_ble_eq_true rfl) (c_X4_drawLots hI) rfl ?_
  try simp only [Int.toNat_natCast, Int.toNat_zero, Int.reduceToNat]
  refine v_iconst hX eX7_lots_8 ?_
  exact v_zreturn hX hR eX7_lots_9 rfl (by omega) (hq)
/-! worth -/
def sumN (f : Nat → Int) : Nat → Int
  | 0 => 0
  | n + 1 => sumN f n + f n
theorem sumN_congr {f g : Nat → Int} : ∀ n, (∀ i, i < n → f i = g i) → sumN f n = sumN g n
  | 0, _ => rfl
  | n + 1, h => by rw [sumN, sumN, sumN_congr n (fun i hi => h i (by omega)), h n (by omega)]
def plF (h : Hp) (p : Nat) : Bool := prF h p && decide (h 4 p ≠ -1)
set_option maxHeartbeats 2000000 in
set_option maxRecDepth 20000 in
theorem c_X7_isPlaced {d : Nat} {h : Hp} {p : Int} (hI : RI h) (hL : PLI h) (hp : inN h p) : Fn (d + 2) MX7_isPlaced [mA 0, mI p] h (some (mI (b01 (plF h p.toNat = true)))) h := by
  intro Q hq X hX hR
  have hp8 := hp.lt hI
  have hl := hL p.toNat (by omega)
  have hz := (hI.pu (p := p.toNat) (by omega)).2.2.2.2.2.1
  show VW X 0 [some (mA 0), some (mI p), none] [] h
  refine v_aload_n hX eX7_isPlaced_0 rfl ?_
  refine v_getA hX eX7_isPlaced_1 fi_X7_10 ⟨by decide, rfl⟩ rfl ?_
  refine v_iload_n hX eX7_isPlaced_4 rfl ?_
  refine v_fnV hX eX7_isPlaced_5 lV_X7_55 ok_MX4_pupilOf ⟨by decide, rfl⟩ rfl ⟨rfl, Nat.le_of_ble_eq_true rfl⟩ (Nat.le_of_ble_eq_true rfl) (c_X4_pupilOf hI hp) rfl ?_
  try simp only [Int.toNat_natCast, Int.toNat_zero, Int.reduceToNat]
  refine v_astore_n hX eX7_isPlaced_8 rfl rfl ?_
  refine v_aload_n hX eX7_isPlaced_9 rfl ?_
  refine v_ifnull hX eX7_isPlaced_10 ?_
  refine v_aload_n hX eX7_isPlaced_13 rfl ?_
  refine v_getZ hX eX7_isPlaced_14 fi_X7_84 (OB_pu (by omega)) ?_
  refine v_if_eq hX eX7_isPlaced_17 (tgt := 34) rfl ⟨by omega, by omega⟩ (fun c17 => ?_) (fun c17 => ?_)
  · refine v_iconst hX eX7_isPlaced_34 ?_
    exact v_zreturn hX hR eX7_isPlaced_35 rfl (by omega) (q_f (by simp [plF, prF]; intro z; omega) hq)
  · refine v_aload_n hX eX7_isPlaced_20 rfl ?_
    refine v_getA hX eX7_isPlaced_21 fi_X7_30 ⟨by decide, rfl⟩ rfl ?_
    refine v_iload_n hX eX7_isPlaced_24 rfl ?_
    refine v_iald hX eX7_isPlaced_25 (by first | exact ⟨by decide, rfl⟩ | exact AR_rk (by omega)) ⟨by omega, by omega⟩ ?_
    try simp only [Int.toNat_natCast, Int.toNat_zero, Int.reduceToNat]
    refine v_iconst hX eX7_isPlaced_26 ?_
    refine v_icmp_eq hX eX7_isPlaced_27 (tgt := 34) rfl ⟨by omega, by omega⟩ ⟨by omega, by omega⟩ (fun c27 => ?_) (fun c27 => ?_)
    · refine v_iconst hX eX7_isPlaced_34 ?_
      exact v_zreturn hX hR eX7_isPlaced_35 rfl (by omega) (q_f (by simp [plF, prF]; intro z; omega) hq)
    · refine v_iconst hX eX7_isPlaced_30 ?_
      refine v_goto hX eX7_isPlaced_31 (tgt := 35) rfl ?_
      exact v_zreturn hX hR eX7_isPlaced_35 rfl (by omega) (q_t (by simp [plF, prF]; omega) hq)
def rkP (h : Hp) (p : Nat) : Int := if p < (h 1 3).toNat ∧ h 4 p ≠ -1 then rkI h p (h 4 p) else 0
theorem rkI_rng {h : Hp} (hI : RI h) {p : Nat} (hp : p < 8) (j : Int) : 1 ≤ rkI h p j ∧ rkI h p j ≤ 6 := by
  unfold rkI
  split
  · exact (hI.pu hp).2.2.2.2.2.2 j.toNat (by omega)
  · decide
set_option maxHeartbeats 2000000 in
set_option maxRecDepth 20000 in
theorem c_X7_rankByPlan {d : Nat} {h : Hp} {p : Nat} (hI : RI h) (hL : PLI h) (hp8 : p < 8) : Fn (d + 2) MX7_rankByPlan [mA 0, mI p] h (some (mI (rkP h p))) h := by
  intro Q hq X hX hR
  have hn := hI.n
  have hl := hL p hp8
  show VW X 0 [some (mA 0), some (mI p), none] [] h
  by_cases hp : p < (h 1 3).toNat
  · have hin : inN h p := ⟨by omega, by omega⟩
    refine v_aload_n hX eX7_rankByPlan_0 rfl ?_
    refine v_getA hX eX7_rankByPlan_1 fi_X7_10 ⟨by decide, rfl⟩ rfl ?_
    refine v_iload_n hX eX7_rankByPlan_4 rfl ?_
    refine v_fnV hX eX7_rankByPlan_5 lV_X7_55 ok_MX4_pupilOf ⟨by decide, rfl⟩ rfl ⟨rfl, Nat.le_of_ble_eq_true rfl⟩ (Nat.le_of_ble_eq_true rfl) (c_X4_pupilOf hI hin) rfl ?_
    try simp only [Int.toNat_natCast, Int.toNat_zero, Int.reduceToNat]
    refine v_astore_n hX eX7_rankByPlan_8 rfl rfl ?_
    refine v_aload_n hX eX7_rankByPlan_9 rfl ?_
    refine v_ifnull hX eX7_rankByPlan_10 ?_
    refine v_aload_n hX eX7_rankByPlan_13 rfl ?_
    refine v_getA hX eX7_rankByPlan_14 fi_X7_30 ⟨by decide, rfl⟩ rfl ?_
    refine v_iload_n hX eX7_rankByPlan_17 rfl ?_
    refine v_iald hX eX7_rankByPlan_18 (by first | exact ⟨by decide, rfl⟩ | exact AR_rk (by omega)) ⟨by omega, by omega⟩ ?_
    try simp only [Int.toNat_natCast, Int.toNat_zero, Int.reduceToNat]
    refine v_iconst hX eX7_rankByPlan_19 ?_
    refine v_icmp_ne hX eX7_rankByPlan_20 (tgt := 27) rfl ⟨by omega, by omega⟩ ⟨by omega, by omega⟩ (fun c20 => ?_) (fun c20 => ?_)
    · refine v_aload_n hX eX7_rankByPlan_27 rfl ?_
      refine v_aload_n hX eX7_rankByPlan_28 rfl ?_
      refine v_getA hX eX7_rankByPlan_29 fi_X7_30 ⟨by decide, rfl⟩ rfl ?_
      refine v_iload_n hX eX7_rankByPlan_32 rfl ?_
      refine v_iald hX eX7_rankByPlan_33 (by first | exact ⟨by decide, rfl⟩ | exact AR_rk (by omega)) ⟨by omega, by omega⟩ ?_
      try simp only [Int.toNat_natCast, Int.toNat_zero, Int.reduceToNat]
      refine v_fnV hX eX7_rankByPlan_34 lV_X7_134 ok_MX3_rankIn (OB_pu (by omega)) rfl ⟨rfl, Nat.le_of_ble_eq_true rfl⟩ (Nat.le_of_ble_eq_true rfl) (c_X3_rankIn hp8 ⟨by omega, by omega⟩) rfl ?_
      try simp only [Int.toNat_natCast, Int.toNat_zero, Int.reduceToNat]
      exact v_ireturn hX hR eX7_rankByPlan_37 rfl (q_i (if_pos ⟨hp, c20⟩) hq)
    · refine v_iconst hX eX7_rankByPlan_23 ?_
      refine v_goto hX eX7_rankByPlan_24 (tgt := 37) rfl ?_
      exact v_ireturn hX hR eX7_rankByPlan_37 rfl (q_i (if_neg (fun z => z.2 c20)) hq)
  · refine v_aload_n hX eX7_rankByPlan_0 rfl ?_
    refine v_getA hX eX7_rankByPlan_1 fi_X7_10 ⟨by decide, rfl⟩ rfl ?_
    refine v_iload_n hX eX7_rankByPlan_4 rfl ?_
    refine v_fnV hX eX7_rankByPlan_5 lV_X7_55 ok_MX4_pupilOf ⟨by decide, rfl⟩ rfl ⟨rfl, Nat.le_of_ble_eq_true rfl⟩ (Nat.le_of_ble_eq_true rfl) (c_X4_pupilOf_N hI ⟨by omega, by omega⟩ (fun z => hp (by have := z.2; omega))) rfl ?_
    try simp only [Int.toNat_natCast, Int.toNat_zero, Int.reduceToNat]
    refine v_astore_nN hX eX7_rankByPlan_8 rfl rfl ?_
    refine v_aload_nN hX eX7_rankByPlan_9 rfl ?_
    refine v_ifnullN hX eX7_rankByPlan_10 (tgt := 23) rfl ?_
    refine v_iconst hX eX7_rankByPlan_23 ?_
    refine v_goto hX eX7_rankByPlan_24 (tgt := 37) rfl ?_
    exact v_ireturn hX hR eX7_rankByPlan_37 rfl (q_i (if_neg (fun z => hp z.1)) hq)
def crF (h : Hp) (w : Int) (p : Nat) : Bool := plF h p && decide (rkI h p (h 4 p) = w)
theorem rkP_pl {h : Hp} {p : Nat} (hp : p < (h 1 3).toNat) (hl : plF h p = true) : rkP h p = rkI h p (h 4 p) := by
  unfold plF at hl
  rw [Bool.and_eq_true, decide_eq_true_eq] at hl
  exact if_pos ⟨hp, hl.2⟩
set_option maxHeartbeats 2000000 in
set_option maxRecDepth 20000 in
theorem c_X7_countRanks {d : Nat} {h : Hp} {w : Int} (hI : RI h) (hL : PLI h) (hw : rng w) : Fn (d + 3) MX7_countRanks [mA 0, mI w] h (some (mI (cntF (crF h w) (h 1 3).toNat : Nat))) h := by
  intro Q hq X hX hR
  have hn := hI.n
  have loop : ∀ i : Nat, i ≤ (h 1 3).toNat → VW X 4 [some (mA 0), some (mI w), some (mI (cntF (crF h w) i : Nat)), some (mI i)] [] h := by
    refine loop_up _ ?_ ?_
    · refine v_iload_n hX eX7_countRanks_4 rfl ?_
      refine v_aload_n hX eX7_countRanks_5 rfl ?_
      refine v_getA hX eX7_countRanks_6 fi_X7_10 ⟨by decide, rfl⟩ rfl ?_
      refine v_getI hX eX7_countRanks_9 fi_X7_101 ⟨by decide, rfl⟩ ?_
      refine v_icmp_ge hX eX7_countRanks_12 (tgt := 41) rfl ⟨by omega, by omega⟩ ⟨by omega, by omega⟩ (fun c12 => ?_) (fun c12 => False.elim ((by omega)))
      refine v_iload_n hX eX7_countRanks_41 rfl ?_
      exact v_ireturn hX hR eX7_countRanks_42 rfl (hq)
    · intro i hi ih
      have no : crF h w i = false → VW X 35 [some (mA 0), some (mI w), some (mI (cntF (crF h w) i : Nat)), some (mI i)] [] h := by
        intro hf
        rw [cntF, hf] at ih
        refine v_iinc hX eX7_countRanks_35 rfl rfl rfl ?_
        exact v_goto hX eX7_countRanks_38 (tgt := 4) rfl ih
      have rr := rkI_rng hI (p := i) (by omega) (h 4 i)
      refine v_iload_n hX eX7_countRanks_4 rfl ?_
      refine v_aload_n hX eX7_countRanks_5 rfl ?_
      refine v_getA hX eX7_countRanks_6 fi_X7_10 ⟨by decide, rfl⟩ rfl ?_
      refine v_getI hX eX7_countRanks_9 fi_X7_101 ⟨by decide, rfl⟩ ?_
      refine v_icmp_ge hX eX7_countRanks_12 (tgt := 41) rfl ⟨by omega, by omega⟩ ⟨by omega, by omega⟩ (fun c12 => False.elim ((by omega))) (fun c12 => ?_)
      refine v_aload_n hX eX7_countRanks_15 rfl ?_
      refine v_iload_n hX eX7_countRanks_16 rfl ?_
      refine v_fnV hX eX7_countRanks_17 lV_X7_211 ok_MX7_isPlaced ⟨by decide, rfl⟩ rfl ⟨rfl, Nat.le_of_ble_eq_true rfl⟩ (Nat.le_of_ble_eq_true rfl) (c_X7_isPlaced hI hL ⟨by omega, by omega⟩) rfl ?_
      try simp only [Int.toNat_natCast, Int.toNat_zero, Int.reduceToNat]
      refine v_ifB_eq hX eX7_countRanks_20 (tgt := 35) rfl (fun c20 => ?_) (fun c20 => ?_)
      · exact no (by simp [crF]; intro z; exact absurd z c20)
      · refine v_aload_n hX eX7_countRanks_23 rfl ?_
        refine v_iload_n hX eX7_countRanks_24 rfl ?_
        refine v_fnV hX eX7_countRanks_25 lV_X7_195 ok_MX7_rankByPlan ⟨by decide, rfl⟩ rfl ⟨rfl, Nat.le_of_ble_eq_true rfl⟩ (Nat.le_of_ble_eq_true rfl) (c_X7_rankByPlan hI hL (by omega)) rfl ?_
        try simp only [Int.toNat_natCast, Int.toNat_zero, Int.reduceToNat]
        rw [rkP_pl hi c20]
        refine v_iload_n hX eX7_countRanks_28 rfl ?_
        refine v_icmp_ne hX eX7_countRanks_29 (tgt := 35) rfl ⟨by omega, by omega⟩ ⟨by omega, by omega⟩ (fun c29 => ?_) (fun c29 => ?_)
        · exact no (by simp [crF]; intro z; exact c29)
        · refine v_iinc hX eX7_countRanks_32 rfl rfl rfl ?_
          rw [cntF, if_pos (show crF h w i = true from by simp [crF]; exact ⟨c20, c29⟩)] at ih
          refine v_iinc hX eX7_countRanks_35 rfl rfl rfl ?_
          exact v_goto hX eX7_countRanks_38 (tgt := 4) rfl ih
  show VW X 0 [some (mA 0), some (mI w), none, none] [] h
  refine v_iconst hX eX7_countRanks_0 ?_
  refine v_istore_n hX eX7_countRanks_1 rfl rfl ?_
  refine v_iconst hX eX7_countRanks_2 ?_
  refine v_istore_n hX eX7_countRanks_3 rfl rfl ?_
  exact loop 0 (by omega)
def grF (h : Hp) (p : Nat) : Int := if plF h p = true then rkI h p (h 4 p) * (h (23 + p) 3 + 1) else 0
set_option maxHeartbeats 2000000 in
set_option maxRecDepth 20000 in
theorem c_X7_grief {d : Nat} {h : Hp} (hI : RI h) (hL : PLI h) : Fn (d + 3) MX7_grief [mA 0] h (some (mI (sumN (grF h) (h 1 3).toNat))) h := by
  intro Q hq X hX hR
  have hn := hI.n
  have loop : ∀ i : Nat, i ≤ (h 1 3).toNat → VW X 4 [some (mA 0), some (mI (sumN (grF h) i)), some (mI i)] [] h := by
    refine loop_up _ ?_ ?_
    · refine v_iload_n hX eX7_grief_4 rfl ?_
      refine v_aload_n hX eX7_grief_5 rfl ?_
      refine v_getA hX eX7_grief_6 fi_X7_10 ⟨by decide, rfl⟩ rfl ?_
      refine v_getI hX eX7_grief_9 fi_X7_101 ⟨by decide, rfl⟩ ?_
      refine v_icmp_ge hX eX7_grief_12 (tgt := 48) rfl ⟨by omega, by omega⟩ ⟨by omega, by omega⟩ (fun c12 => ?_) (fun c12 => False.elim ((by omega)))
      refine v_iload_n hX eX7_grief_48 rfl ?_
      exact v_ireturn hX hR eX7_grief_49 rfl (hq)
    · intro i hi ih
      refine v_iload_n hX eX7_grief_4 rfl ?_
      refine v_aload_n hX eX7_grief_5 rfl ?_
      refine v_getA hX eX7_grief_6 fi_X7_10 ⟨by decide, rfl⟩ rfl ?_
      refine v_getI hX eX7_grief_9 fi_X7_101 ⟨by decide, rfl⟩ ?_
      refine v_icmp_ge hX eX7_grief_12 (tgt := 48) rfl ⟨by omega, by omega⟩ ⟨by omega, by omega⟩ (fun c12 => False.elim ((by omega))) (fun c12 => ?_)
      refine v_aload_n hX eX7_grief_15 rfl ?_
      refine v_iload_n hX eX7_grief_16 rfl ?_
      refine v_fnV hX eX7_grief_17 lV_X7_211 ok_MX7_isPlaced ⟨by decide, rfl⟩ rfl ⟨rfl, Nat.le_of_ble_eq_true rfl⟩ (Nat.le_of_ble_eq_true rfl) (c_X7_isPlaced hI hL ⟨by omega, by omega⟩) rfl ?_
      try simp only [Int.toNat_natCast, Int.toNat_zero, Int.reduceToNat]
      refine v_ifB_eq hX eX7_grief_20 (tgt := 42) rfl (fun c20 => ?_) (fun c20 => ?_)
      · rw [sumN, grF, if_neg c20, Int.add_zero] at ih
        refine v_iinc hX eX7_grief_42 rfl rfl rfl ?_
        exact v_goto hX eX7_grief_45 (tgt := 4) rfl ih
      · refine v_iload_n hX eX7_grief_23 rfl ?_
        refine v_aload_n hX eX7_grief_24 rfl ?_
        refine v_iload_n hX eX7_grief_25 rfl ?_
        refine v_fnV hX eX7_grief_26 lV_X7_195 ok_MX7_rankByPlan ⟨by decide, rfl⟩ rfl ⟨rfl, Nat.le_of_ble_eq_true rfl⟩ (Nat.le_of_ble_eq_true rfl) (c_X7_rankByPlan hI hL (by omega)) rfl ?_
        try simp only [Int.toNat_natCast, Int.toNat_zero, Int.reduceToNat]
        rw [rkP_pl hi c20]
        refine v_aload_n hX eX7_grief_29 rfl ?_
        refine v_getA hX eX7_grief_30 fi_X7_10 ⟨by decide, rfl⟩ rfl ?_
        refine v_iload_n hX eX7_grief_33 rfl ?_
        refine v_fnV hX eX7_grief_34 lV_X7_214 ok_MX4_scoreOf ⟨by decide, rfl⟩ rfl ⟨rfl, Nat.le_of_ble_eq_true rfl⟩ (Nat.le_of_ble_eq_true rfl) (c_X4_scoreOf hI ⟨by omega, by omega⟩) rfl ?_
        try simp only [Int.toNat_natCast, Int.toNat_zero, Int.reduceToNat]
        refine v_iconst hX eX7_grief_37 ?_
        refine v_iadd hX eX7_grief_38 ?_
        refine v_imul hX eX7_grief_39 ?_
        refine v_iadd hX eX7_grief_40 ?_
        refine v_istore_n hX eX7_grief_41 rfl rfl ?_
        rw [sumN, grF, if_pos c20] at ih
        refine v_iinc hX eX7_grief_42 rfl rfl rfl ?_
        exact v_goto hX eX7_grief_45 (tgt := 4) rfl ih
  show VW X 0 [some (mA 0), none, none] [] h
  refine v_iconst hX eX7_grief_0 ?_
  refine v_istore_n hX eX7_grief_1 rfl rfl ?_
  refine v_iconst hX eX7_grief_2 ?_
  refine v_istore_n hX eX7_grief_3 rfl rfl ?_
  exact loop 0 (by omega)
def fpF (h : Hp) (a b : Nat) : Bool := decide (a < b) && (plF h a && (plF h b && (decide (h 4 a = h 4 b) && frB h a b)))
theorem cntF_none {f : Nat → Bool} {n : Nat} (h : ∀ i, i < n → f i = false) : cntF f n = 0 := (cntF_pos f n).mpr h
set_option maxHeartbeats 2000000 in
set_option maxRecDepth 20000 in
theorem c_X7_friendPairs {d : Nat} {h : Hp} (hI : RI h) (hL : PLI h) : Fn (d + 3) MX7_friendPairs [mA 0] h (some (mI (sumN (fun a => (cntF (fpF h a) (h 1 3).toNat : Nat)) (h 1 3).toNat))) h := by
  intro Q hq X hX hR
  have hn := hI.n
  have loop : ∀ i : Nat, i ≤ (h 1 3).toNat → ∀ l3, VW X 4 [some (mA 0), some (mI (sumN (fun a => (cntF (fpF h a) (h 1 3).toNat : Nat)) i)), some (mI i), l3] [] h := by
    refine loop_up _ ?_ ?_
    · intro l3
      refine v_iload_n hX eX7_friendPairs_4 rfl ?_
      refine v_aload_n hX eX7_friendPairs_5 rfl ?_
      refine v_getA hX eX7_friendPairs_6 fi_X7_10 ⟨by decide, rfl⟩ rfl ?_
      refine v_getI hX eX7_friendPairs_9 fi_X7_101 ⟨by decide, rfl⟩ ?_
      refine v_icmp_ge hX eX7_friendPairs_12 (tgt := 88) rfl ⟨by omega, by omega⟩ ⟨by omega, by omega⟩ (fun c12 => ?_) (fun c12 => False.elim ((by omega)))
      refine v_iload_n hX eX7_friendPairs_88 rfl ?_
      exact v_ireturn hX hR eX7_friendPairs_89 rfl (hq)
    · intro i hi ih l3
      have li := hL i (by omega)
      have inner : ∀ j : Nat, j ≤ (h 1 3).toNat → i < j → VW X 19 [some (mA 0), some (mI (sumN (fun a => (cntF (fpF h a) (h 1 3).toNat : Nat)) i + (cntF (fpF h i) j : Nat))), some (mI i), some (mI j)] [] h := by
        refine loop_up (W := fun j => i < j → VW X 19 [some (mA 0), some (mI (sumN (fun a => (cntF (fpF h a) (h 1 3).toNat : Nat)) i + (cntF (fpF h i) j : Nat))), some (mI i), some (mI j)] [] h) _ ?_ ?_
        · intro _
          have ih2 := ih (some (mI (h 1 3)))
          rw [sumN] at ih2
          rw [← cast_toNat' hn.1]
          refine v_iload_n hX eX7_friendPairs_19 rfl ?_
          refine v_aload_n hX eX7_friendPairs_20 rfl ?_
          refine v_getA hX eX7_friendPairs_21 fi_X7_10 ⟨by decide, rfl⟩ rfl ?_
          refine v_getI hX eX7_friendPairs_24 fi_X7_101 ⟨by decide, rfl⟩ ?_
          refine v_icmp_ge hX eX7_friendPairs_27 (tgt := 82) rfl ⟨by omega, by omega⟩ ⟨by omega, by omega⟩ (fun c27 => ?_) (fun c27 => False.elim ((by omega)))
          refine v_iinc hX eX7_friendPairs_82 rfl rfl rfl ?_
          exact v_goto hX eX7_friendPairs_85 (tgt := 4) rfl ih2
        · intro j hj ihj hij
          have lj := hL j (by omega)
          have ihj := ihj (by omega)
          have no : fpF h i j = false → VW X 76 [some (mA 0), some (mI (sumN (fun a => (cntF (fpF h a) (h 1 3).toNat : Nat)) i + (cntF (fpF h i) j : Nat))), some (mI i), some (mI j)] [] h := by
            intro hf
            rw [cntF, hf] at ihj
            refine v_iinc hX eX7_friendPairs_76 rfl rfl rfl ?_
            exact v_goto hX eX7_friendPairs_79 (tgt := 19) rfl ihj
          refine v_iload_n hX eX7_friendPairs_19 rfl ?_
          refine v_aload_n hX eX7_friendPairs_20 rfl ?_
          refine v_getA hX eX7_friendPairs_21 fi_X7_10 ⟨by decide, rfl⟩ rfl ?_
          refine v_getI hX eX7_friendPairs_24 fi_X7_101 ⟨by decide, rfl⟩ ?_
          refine v_icmp_ge hX eX7_friendPairs_27 (tgt := 82) rfl ⟨by omega, by omega⟩ ⟨by omega, by omega⟩ (fun c27 => False.elim ((by omega))) (fun c27 => ?_)
          refine v_aload_n hX eX7_friendPairs_30 rfl ?_
          refine v_iload_n hX eX7_friendPairs_31 rfl ?_
          refine v_fnV hX eX7_friendPairs_32 lV_X7_211 ok_MX7_isPlaced ⟨by decide, rfl⟩ rfl ⟨rfl, Nat.le_of_ble_eq_true rfl⟩ (Nat.le_of_ble_eq_true rfl) (c_X7_isPlaced hI hL ⟨by omega, by omega⟩) rfl ?_
          try simp only [Int.toNat_natCast, Int.toNat_zero, Int.reduceToNat]
          refine v_ifB_eq hX eX7_friendPairs_35 (tgt := 76) rfl (fun c35 => ?_) (fun c35 => ?_)
          · exact no (by unfold fpF; rw [show plF h i = false from by simpa using c35]; simp)
          · refine v_aload_n hX eX7_friendPairs_38 rfl ?_
            refine v_iload_n hX eX7_friendPairs_39 rfl ?_
            refine v_fnV hX eX7_friendPairs_40 lV_X7_211 ok_MX7_isPlaced ⟨by decide, rfl⟩ rfl ⟨rfl, Nat.le_of_ble_eq_true rfl⟩ (Nat.le_of_ble_eq_true rfl) (c_X7_isPlaced hI hL ⟨by omega, by omega⟩) rfl ?_
            try simp only [Int.toNat_natCast, Int.toNat_zero, Int.reduceToNat]
            refine v_ifB_eq hX eX7_friendPairs_43 (tgt := 76) rfl (fun c43 => ?_) (fun c43 => ?_)
            · exact no (by unfold fpF; rw [show plF h j = false from by simpa using c43]; simp)
            · refine v_aload_n hX eX7_friendPairs_46 rfl ?_
              refine v_getA hX eX7_friendPairs_47 fi_X7_30 ⟨by decide, rfl⟩ rfl ?_
              refine v_iload_n hX eX7_friendPairs_50 rfl ?_
              refine v_iald hX eX7_friendPairs_51 (by first | exact ⟨by decide, rfl⟩ | exact AR_rk (by omega)) ⟨by omega, by omega⟩ ?_
              try simp only [Int.toNat_natCast, Int.toNat_zero, Int.reduceToNat]
              refine v_aload_n hX eX7_friendPairs_52 rfl ?_
              refine v_getA hX eX7_friendPairs_53 fi_X7_30 ⟨by decide, rfl⟩ rfl ?_
              refine v_iload_n hX eX7_friendPairs_56 rfl ?_
              refine v_iald hX eX7_friendPairs_57 (by first | exact ⟨by decide, rfl⟩ | exact AR_rk (by omega)) ⟨by omega, by omega⟩ ?_
              try simp only [Int.toNat_natCast, Int.toNat_zero, Int.reduceToNat]
              refine v_icmp_ne hX eX7_friendPairs_58 (tgt := 76) rfl ⟨by omega, by omega⟩ ⟨by omega, by omega⟩ (fun c58 => ?_) (fun c58 => ?_)
              · exact no (by unfold fpF; rw [show decide (h 4 i = h 4 j) = false from by simpa using c58]; simp)
              · refine v_aload_n hX eX7_friendPairs_61 rfl ?_
                refine v_getA hX eX7_friendPairs_62 fi_X7_10 ⟨by decide, rfl⟩ rfl ?_
                refine v_iload_n hX eX7_friendPairs_65 rfl ?_
                refine v_iload_n hX eX7_friendPairs_66 rfl ?_
                refine v_fnV hX eX7_friendPairs_67 lV_X7_217 ok_MX4_areFriends ⟨by decide, rfl⟩ rfl ⟨rfl, Nat.le_of_ble_eq_true rfl⟩ (Nat.le_of_ble_eq_true rfl) (c_X4_areFriends hI ⟨by omega, by omega⟩ ⟨by omega, by omega⟩) rfl ?_
                try simp only [Int.toNat_natCast, Int.toNat_zero, Int.reduceToNat]
                refine v_ifB_eq hX eX7_friendPairs_70 (tgt := 76) rfl (fun c70 => ?_) (fun c70 => ?_)
                · exact no (by unfold fpF; rw [show frB h i j = false from by simpa using c70]; simp)
                · refine v_iinc hX eX7_friendPairs_73 rfl rfl rfl ?_
                  have hf : fpF h i j = true := by unfold fpF; rw [c35, c43, c70, c58]; simp; exact hij
                  rw [cntF, if_pos hf, show ((cntF (fpF h i) j + 1 : Nat) : Int) = (cntF (fpF h i) j : Nat) + 1 from rfl, ← Int.add_assoc] at ihj
                  refine v_iinc hX eX7_friendPairs_76 rfl rfl rfl ?_
                  exact v_goto hX eX7_friendPairs_79 (tgt := 19) rfl ihj
      have i0 := inner (i + 1) (by omega) (by omega)
      rw [cntF_none (f := fpF h i) (n := i + 1) (fun k hk => by unfold fpF; rw [show decide (i < k) = false from by simp; omega]; rfl), Int.natCast_zero, Int.add_zero] at i0
      refine v_iload_n hX eX7_friendPairs_4 rfl ?_
      refine v_aload_n hX eX7_friendPairs_5 rfl ?_
      refine v_getA hX eX7_friendPairs_6 fi_X7_10 ⟨by decide, rfl⟩ rfl ?_
      refine v_getI hX eX7_friendPairs_9 fi_X7_101 ⟨by decide, rfl⟩ ?_
      refine v_icmp_ge hX eX7_friendPairs_12 (tgt := 88) rfl ⟨by omega, by omega⟩ ⟨by omega, by omega⟩ (fun c12 => False.elim ((by omega))) (fun c12 => ?_)
      refine v_iload_n hX eX7_friendPairs_15 rfl ?_
      refine v_iconst hX eX7_friendPairs_16 ?_
      refine v_iadd hX eX7_friendPairs_17 ?_
      refine v_istore_n hX eX7_friendPairs_18 rfl rfl ?_
      exact i0
  show VW X 0 [some (mA 0), none, none, none] [] h
  refine v_iconst hX eX7_friendPairs_0 ?_
  refine v_istore_n hX eX7_friendPairs_1 rfl rfl ?_
  refine v_iconst hX eX7_friendPairs_2 ?_
  refine v_istore_n hX eX7_friendPairs_3 rfl rfl ?_
  exact loop 0 (by omega) _
def useN (h : Hp) : Nat → Nat
  | 0 => 0
  | p + 1 => if plF h p = true then useN h p ||| 2 ^ (h 4 p).toNat else useN h p
theorem useN_lt {h : Hp} (hL : PLI h) : ∀ n, n ≤ 8 → useN h n < 256
  | 0, _ => by simp [useN]
  | n + 1, hn => by
    have ih := useN_lt hL n (by omega)
    have := hL n (by omega)
    rw [useN]
    split
    · exact put_lt ih (by omega)
    · exact ih
set_option maxHeartbeats 2000000 in
set_option maxRecDepth 20000 in
theorem c_X7_projectsUsed {d : Nat} {h : Hp} (hI : RI h) (hL : PLI h) : Fn (d + 3) MX7_projectsUsed [mA 0] h (some (mI (bcnt (useN h (h 1 3).toNat) : Nat))) h := by
  intro Q hq X hX hR
  have hn := hI.n
  have loop : ∀ i : Nat, i ≤ (h 1 3).toNat → VW X 4 [some (mA 0), some (mI (useN h i : Nat)), some (mI i)] [] h := by
    refine loop_up _ ?_ ?_
    · refine v_iload_n hX eX7_projectsUsed_4 rfl ?_
      refine v_aload_n hX eX7_projectsUsed_5 rfl ?_
      refine v_getA hX eX7_projectsUsed_6 fi_X7_10 ⟨by decide, rfl⟩ rfl ?_
      refine v_getI hX eX7_projectsUsed_9 fi_X7_101 ⟨by decide, rfl⟩ ?_
      refine v_icmp_ge hX eX7_projectsUsed_12 (tgt := 40) rfl ⟨by omega, by omega⟩ ⟨by omega, by omega⟩ (fun c12 => ?_) (fun c12 => False.elim ((by omega)))
      refine v_iload_n hX eX7_projectsUsed_40 rfl ?_
      refine v_fnS hX eX7_projectsUsed_41 lS_X7_111 ok_MJ6_bitCount_0f7a4 ⟨rfl, Nat.le_of_ble_eq_true rfl⟩ (Nat.le_of_ble_eq_true rfl) (c_bitCount (useN_lt hL _ (by omega))) rfl ?_
      try simp only [Int.toNat_natCast, Int.toNat_zero, Int.reduceToNat]
      exact v_ireturn hX hR eX7_projectsUsed_44 rfl (hq)
    · intro i hi ih
      have ul := useN_lt hL i (by omega)
      have li := hL i (by omega)
      refine v_iload_n hX eX7_projectsUsed_4 rfl ?_
      refine v_aload_n hX eX7_projectsUsed_5 rfl ?_
      refine v_getA hX eX7_projectsUsed_6 fi_X7_10 ⟨by decide, rfl⟩ rfl ?_
      refine v_getI hX eX7_projectsUsed_9 fi_X7_101 ⟨by decide, rfl⟩ ?_
      refine v_icmp_ge hX eX7_projectsUsed_12 (tgt := 40) rfl ⟨by omega, by omega⟩ ⟨by omega, by omega⟩ (fun c12 => False.elim ((by omega))) (fun c12 => ?_)
      refine v_aload_n hX eX7_projectsUsed_15 rfl ?_
      refine v_iload_n hX eX7_projectsUsed_16 rfl ?_
      refine v_fnV hX eX7_projectsUsed_17 lV_X7_211 ok_MX7_isPlaced ⟨by decide, rfl⟩ rfl ⟨rfl, Nat.le_of_ble_eq_true rfl⟩ (Nat.le_of_ble_eq_true rfl) (c_X7_isPlaced hI hL ⟨by omega, by omega⟩) rfl ?_
      try simp only [Int.toNat_natCast, Int.toNat_zero, Int.reduceToNat]
      refine v_ifB_eq hX eX7_projectsUsed_20 (tgt := 34) rfl (fun c20 => ?_) (fun c20 => ?_)
      · rw [useN, if_neg c20] at ih
        refine v_iinc hX eX7_projectsUsed_34 rfl rfl rfl ?_
        exact v_goto hX eX7_projectsUsed_37 (tgt := 4) rfl ih
      · refine v_iload_n hX eX7_projectsUsed_23 rfl ?_
        refine v_iconst hX eX7_projectsUsed_24 ?_
        refine v_aload_n hX eX7_projectsUsed_25 rfl ?_
        refine v_getA hX eX7_projectsUsed_26 fi_X7_30 ⟨by decide, rfl⟩ rfl ?_
        refine v_iload_n hX eX7_projectsUsed_29 rfl ?_
        refine v_iald hX eX7_projectsUsed_30 (by first | exact ⟨by decide, rfl⟩ | exact AR_rk (by omega)) ⟨by omega, by omega⟩ ?_
        try simp only [Int.toNat_natCast, Int.toNat_zero, Int.reduceToNat]
        refine v_ishl hX eX7_projectsUsed_31 ?_
        have hne : h 4 i ≠ -1 := by unfold plF at c20; simp at c20; exact c20.2
        have e := wb_put (g := useN h i) (i := (h 4 i).toNat) ul (by omega)
        rw [← cast_toNat' (show 0 ≤ h 4 i by omega)] at e
        refine v_ior hX eX7_projectsUsed_32 ?_
        rw [e]
        refine v_istore_n hX eX7_projectsUsed_33 rfl rfl ?_
        rw [useN, if_pos c20] at ih
        refine v_iinc hX eX7_projectsUsed_34 rfl rfl rfl ?_
        exact v_goto hX eX7_projectsUsed_37 (tgt := 4) rfl ih
  show VW X 0 [some (mA 0), none, none] [] h
  refine v_iconst hX eX7_projectsUsed_0 ?_
  refine v_istore_n hX eX7_projectsUsed_1 rfl rfl ?_
  refine v_iconst hX eX7_projectsUsed_2 ?_
  refine v_istore_n hX eX7_projectsUsed_3 rfl rfl ?_
  exact loop 0 (by omega)
def wrtW (h : Hp) (w : Int) : Int := if 1 ≤ w ∧ w ≤ 6 then (cntF (crF h w) (h 1 3).toNat : Nat) else if w = 7 then sumN (grF h) (h 1 3).toNat else if w = 8 then sumN (fun a => (cntF (fpF h a) (h 1 3).toNat : Nat)) (h 1 3).toNat else if w = 9 then (bcnt (useN h (h 1 3).toNat) : Nat) else -1
set_option maxHeartbeats 2000000 in
set_option maxRecDepth 20000 in
theorem c_X7_worth {d : Nat} {h : Hp} {w : Int} (hI : RI h) (hL : PLI h) (hw : rng w) : Fn (d + 4) MX7_worth [mA 0, mI w] h (some (mI (wrtW h w))) h := by
  intro Q hq X hX hR
  show VW X 0 [some (mA 0), some (mI w)] [] h
  by_cases h0 : 1 ≤ w ∧ w ≤ 6
  · rw [wrtW, if_pos h0] at hq
    refine v_iload_n hX eX7_worth_0 rfl ?_
    refine v_iconst hX eX7_worth_1 ?_
    refine v_icmp_lt hX eX7_worth_2 (tgt := 17) rfl ⟨by omega, by omega⟩ ⟨by omega, by omega⟩ (fun c2 => False.elim ((by omega))) (fun c2 => ?_)
    refine v_iload_n hX eX7_worth_5 rfl ?_
    refine v_bipush hX eX7_worth_6 (by decide) ?_
    refine v_icmp_gt hX eX7_worth_8 (tgt := 17) rfl ⟨by omega, by omega⟩ ⟨by omega, by omega⟩ (fun c8 => False.elim ((by omega))) (fun c8 => ?_)
    refine v_aload_n hX eX7_worth_11 rfl ?_
    refine v_iload_n hX eX7_worth_12 rfl ?_
    refine v_fnV hX eX7_worth_13 lV_X7_162 ok_MX7_countRanks ⟨by decide, rfl⟩ rfl ⟨rfl, Nat.le_of_ble_eq_true rfl⟩ (Nat.le_of_ble_eq_true rfl) (c_X7_countRanks hI hL hw) rfl ?_
    try simp only [Int.toNat_natCast, Int.toNat_zero, Int.reduceToNat]
    exact v_ireturn hX hR eX7_worth_16 rfl (hq)
  · rw [wrtW, if_neg h0] at hq
    by_cases h1 : 7 ≤ w ∧ w ≤ 9
    · rcases (show w = 7 ∨ w = 8 ∨ w = 9 by omega) with rfl | rfl | rfl
      · refine v_iload_n hX eX7_worth_0 rfl ?_
        refine v_iconst hX eX7_worth_1 ?_
        refine v_icmp_lt hX eX7_worth_2 (tgt := 17) rfl ⟨by omega, by omega⟩ ⟨by omega, by omega⟩ (fun c2 => False.elim ((by omega))) (fun c2 => ?_)
        refine v_iload_n hX eX7_worth_5 rfl ?_
        refine v_bipush hX eX7_worth_6 (by decide) ?_
        refine v_icmp_gt hX eX7_worth_8 (tgt := 17) rfl ⟨by omega, by omega⟩ ⟨by omega, by omega⟩ (fun c8 => ?_) (fun c8 => False.elim ((by omega)))
        refine v_iload_n hX eX7_worth_17 rfl ?_
        refine v_tsw hX eX7_worth_18 (tgt := 44) (by decide) (by decide) ?_
        refine v_aload_n hX eX7_worth_44 rfl ?_
        refine v_fnV hX eX7_worth_45 lV_X7_165 ok_MX7_grief ⟨by decide, rfl⟩ rfl ⟨rfl, Nat.le_of_ble_eq_true rfl⟩ (Nat.le_of_ble_eq_true rfl) (c_X7_grief hI hL) rfl ?_
        try simp only [Int.toNat_natCast, Int.toNat_zero, Int.reduceToNat]
        exact v_ireturn hX hR eX7_worth_48 rfl (hq)
      · refine v_iload_n hX eX7_worth_0 rfl ?_
        refine v_iconst hX eX7_worth_1 ?_
        refine v_icmp_lt hX eX7_worth_2 (tgt := 17) rfl ⟨by omega, by omega⟩ ⟨by omega, by omega⟩ (fun c2 => False.elim ((by omega))) (fun c2 => ?_)
        refine v_iload_n hX eX7_worth_5 rfl ?_
        refine v_bipush hX eX7_worth_6 (by decide) ?_
        refine v_icmp_gt hX eX7_worth_8 (tgt := 17) rfl ⟨by omega, by omega⟩ ⟨by omega, by omega⟩ (fun c8 => ?_) (fun c8 => False.elim ((by omega)))
        refine v_iload_n hX eX7_worth_17 rfl ?_
        refine v_tsw hX eX7_worth_18 (tgt := 49) (by decide) (by decide) ?_
        refine v_aload_n hX eX7_worth_49 rfl ?_
        refine v_fnV hX eX7_worth_50 lV_X7_168 ok_MX7_friendPairs ⟨by decide, rfl⟩ rfl ⟨rfl, Nat.le_of_ble_eq_true rfl⟩ (Nat.le_of_ble_eq_true rfl) (c_X7_friendPairs hI hL) rfl ?_
        try simp only [Int.toNat_natCast, Int.toNat_zero, Int.reduceToNat]
        exact v_ireturn hX hR eX7_worth_53 rfl (hq)
      · refine v_iload_n hX eX7_worth_0 rfl ?_
        refine v_iconst hX eX7_worth_1 ?_
        refine v_icmp_lt hX eX7_worth_2 (tgt := 17) rfl ⟨by omega, by omega⟩ ⟨by omega, by omega⟩ (fun c2 => False.elim ((by omega))) (fun c2 => ?_)
        refine v_iload_n hX eX7_worth_5 rfl ?_
        refine v_bipush hX eX7_worth_6 (by decide) ?_
        refine v_icmp_gt hX eX7_worth_8 (tgt := 17) rfl ⟨by omega, by omega⟩ ⟨by omega, by omega⟩ (fun c8 => ?_) (fun c8 => False.elim ((by omega)))
        refine v_iload_n hX eX7_worth_17 rfl ?_
        refine v_tsw hX eX7_worth_18 (tgt := 54) (by decide) (by decide) ?_
        refine v_aload_n hX eX7_worth_54 rfl ?_
        refine v_fnV hX eX7_worth_55 lV_X7_171 ok_MX7_projectsUsed ⟨by decide, rfl⟩ rfl ⟨rfl, Nat.le_of_ble_eq_true rfl⟩ (Nat.le_of_ble_eq_true rfl) (c_X7_projectsUsed hI hL) rfl ?_
        try simp only [Int.toNat_natCast, Int.toNat_zero, Int.reduceToNat]
        exact v_ireturn hX hR eX7_worth_58 rfl (hq)
    · rw [if_neg (by omega), if_neg (by omega), if_neg (by omega)] at hq
      refine v_iload_n hX eX7_worth_0 rfl ?_
      refine v_iconst hX eX7_worth_1 ?_
      refine v_icmp_lt hX eX7_worth_2 (tgt := 17) rfl ⟨by omega, by omega⟩ ⟨by omega, by omega⟩ (fun c2 => ?_) (fun c2 => ?_)
      · refine v_iload_n hX eX7_worth_17 rfl ?_
        refine v_tswD hX eX7_worth_18 (tgt := 59) ⟨by omega, by omega, by omega⟩ rfl ?_
        refine v_iconst hX eX7_worth_59 ?_
        exact v_ireturn hX hR eX7_worth_60 rfl (hq)
      · refine v_iload_n hX eX7_worth_5 rfl ?_
        refine v_bipush hX eX7_worth_6 (by decide) ?_
        refine v_icmp_gt hX eX7_worth_8 (tgt := 17) rfl ⟨by omega, by omega⟩ ⟨by omega, by omega⟩ (fun c8 => ?_) (fun c8 => False.elim ((by omega)))
        refine v_iload_n hX eX7_worth_17 rfl ?_
        refine v_tswD hX eX7_worth_18 (tgt := 59) ⟨by omega, by omega, by omega⟩ rfl ?_
        refine v_iconst hX eX7_worth_59 ?_
        exact v_ireturn hX hR eX7_worth_60 rfl (hq)
