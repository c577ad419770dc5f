/-! Scale -/
def colI (c : Int) : Int := if 0 ≤ c ∧ c < 5 then c else 5
theorem colI_rng (c : Int) : 0 ≤ colI c ∧ colI c ≤ 5 := by unfold colI; split <;> omega
set_option maxHeartbeats 2000000 in
set_option maxRecDepth 20000 in
theorem c_X5_cellOf {d : Nat} {h : Hp} {p c : Int} (hp : 0 ≤ p ∧ p < 8) (hc : rng c) : Fn d MX5_cellOf [mI p, mI c] h (some (mI (p * 6 + colI c))) h := by
  intro Q hq X hX hR
  show VW X 0 [some (mI p), some (mI c), none, none] [] h
  refine v_iload_n hX eX5_cellOf_0 rfl ?_
  refine v_if_lt hX eX5_cellOf_1 (tgt := 10) rfl ⟨by omega, by omega⟩ (fun c1 => False.elim ((by omega))) (fun c1 => ?_)
  refine v_iload_n hX eX5_cellOf_4 rfl ?_
  refine v_bipush hX eX5_cellOf_5 (by decide) ?_
  refine v_icmp_lt hX eX5_cellOf_7 (tgt := 14) rfl ⟨by omega, by omega⟩ ⟨by omega, by omega⟩ (fun c7 => ?_) (fun c7 => False.elim ((by omega)))
  refine v_iload_n hX eX5_cellOf_14 rfl ?_
  refine v_istore_n hX eX5_cellOf_15 rfl rfl ?_
  refine v_iload_n hX eX5_cellOf_16 rfl ?_
  refine v_if_lt hX eX5_cellOf_17 (tgt := 25) rfl ⟨by omega, by omega⟩ (fun c17 => ?_) (fun c17 => ?_)
  · refine v_iconst hX eX5_cellOf_25 ?_
    refine v_goto hX eX5_cellOf_26 (tgt := 30) rfl ?_
    refine v_istore_n hX eX5_cellOf_30 rfl rfl ?_
    refine v_iload_n hX eX5_cellOf_31 rfl ?_
    refine v_bipush hX eX5_cellOf_32 (by decide) ?_
    refine v_imul hX eX5_cellOf_34 ?_
    refine v_iload_n hX eX5_cellOf_35 rfl ?_
    refine v_iadd hX eX5_cellOf_36 ?_
    exact v_ireturn hX hR eX5_cellOf_37 rfl (q_i (by rw [colI, if_neg (by omega)]) hq)
  · refine v_iload_n hX eX5_cellOf_20 rfl ?_
    refine v_iconst hX eX5_cellOf_21 ?_
    refine v_icmp_lt hX eX5_cellOf_22 (tgt := 29) rfl ⟨by omega, by omega⟩ ⟨by omega, by omega⟩ (fun c22 => ?_) (fun c22 => ?_)
    · refine v_iload_n hX eX5_cellOf_29 rfl ?_
      refine v_istore_n hX eX5_cellOf_30 rfl rfl ?_
      refine v_iload_n hX eX5_cellOf_31 rfl ?_
      refine v_bipush hX eX5_cellOf_32 (by decide) ?_
      refine v_imul hX eX5_cellOf_34 ?_
      refine v_iload_n hX eX5_cellOf_35 rfl ?_
      refine v_iadd hX eX5_cellOf_36 ?_
      exact v_ireturn hX hR eX5_cellOf_37 rfl (q_i (by rw [colI, if_pos (by omega)]) hq)
    · refine v_iconst hX eX5_cellOf_25 ?_
      refine v_goto hX eX5_cellOf_26 (tgt := 30) rfl ?_
      refine v_istore_n hX eX5_cellOf_30 rfl rfl ?_
      refine v_iload_n hX eX5_cellOf_31 rfl ?_
      refine v_bipush hX eX5_cellOf_32 (by decide) ?_
      refine v_imul hX eX5_cellOf_34 ?_
      refine v_iload_n hX eX5_cellOf_35 rfl ?_
      refine v_iadd hX eX5_cellOf_36 ?_
      exact v_ireturn hX hR eX5_cellOf_37 rfl (q_i (by rw [colI, if_neg (by omega)]) hq)
def cstV (r s : Int) : Int := r * (s + 1) * 32 + (if r < 2 then 0 else ((2 ^ (20 + 4 * (r - 2).toNat) : Nat) : Int))
theorem lsh1 {r : Int} (h : 2 ≤ r ∧ r ≤ 6) : lshl 1 (20 + 4 * (r - 2)) = ((2 ^ (20 + 4 * (r - 2).toNat) : Nat) : Int) := by
  rcases (show r = 2 ∨ r = 3 ∨ r = 4 ∨ r = 5 ∨ r = 6 by omega) with rfl | rfl | rfl | rfl | rfl <;> decide +kernel
theorem cst_mul {r s : Int} (hr : 0 ≤ r ∧ r ≤ 6) (hs : 0 ≤ s ∧ s ≤ 300) : 0 ≤ r * (s + 1) ∧ r * (s + 1) ≤ 1806 := by
  rcases (show r = 0 ∨ r = 1 ∨ r = 2 ∨ r = 3 ∨ r = 4 ∨ r = 5 ∨ r = 6 by omega) with rfl | rfl | rfl | rfl | rfl | rfl | rfl <;> omega
theorem lshl5 {a : Int} (h : 0 ≤ a ∧ a ≤ 1806) : lshl a 5 = a * 32 := by
  have := lshl_n (a := a.toNat) (k := 5) (by decide) (by omega)
  rw [← cast_toNat' h.1, show ((5 : Nat) : Int) = 5 from rfl] at this
  rw [this]
  omega
set_option maxHeartbeats 2000000 in
set_option maxRecDepth 20000 in
theorem c_X5_costOfRank {d : Nat} {h : Hp} {r s : Int} (hr : 0 ≤ r ∧ r ≤ 6) (hs : 0 ≤ s ∧ s ≤ 300) : Fn d MX5_costOfRank [mI r, mI s] h (some (mL (cstV r s))) h := by
  intro Q hq X hX hR
  show VW X 0 [some (mI r), some (mI s), none, none] [] h
  refine v_iload_n hX eX5_costOfRank_0 rfl ?_
  refine v_i2l hX eX5_costOfRank_1 ⟨by omega, by omega⟩ ?_
  refine v_iload_n hX eX5_costOfRank_2 rfl ?_
  refine v_iconst hX eX5_costOfRank_3 ?_
  refine v_iadd hX eX5_costOfRank_4 ?_
  refine v_i2l hX eX5_costOfRank_5 ⟨by omega, by omega⟩ ?_
  refine v_lmul hX eX5_costOfRank_6 ?_
  refine v_iconst hX eX5_costOfRank_7 ?_
  refine v_lshl hX eX5_costOfRank_8 ?_
  rw [lshl5 (cst_mul hr hs)]
  refine v_lstore_n hX eX5_costOfRank_9 rfl rfl ?_
  refine v_iload_n hX eX5_costOfRank_10 rfl ?_
  refine v_iconst hX eX5_costOfRank_11 ?_
  refine v_icmp_ge hX eX5_costOfRank_12 (tgt := 19) rfl ⟨by omega, by omega⟩ ⟨by omega, by omega⟩ (fun c12 => ?_) (fun c12 => ?_)
  · refine v_lload_n hX eX5_costOfRank_19 rfl ?_
    refine v_lconst (z := 1) hX eX5_costOfRank_20 (by decide) ?_
    refine v_bipush hX eX5_costOfRank_21 (by decide) ?_
    refine v_iconst hX eX5_costOfRank_23 ?_
    refine v_iload_n hX eX5_costOfRank_24 rfl ?_
    refine v_iconst hX eX5_costOfRank_25 ?_
    refine v_isub hX eX5_costOfRank_26 ?_
    refine v_imul hX eX5_costOfRank_27 ?_
    refine v_iadd hX eX5_costOfRank_28 ?_
    refine v_lshl hX eX5_costOfRank_29 ?_
    rw [lsh1 (by omega)]
    refine v_ladd hX eX5_costOfRank_30 ?_
    exact v_lreturn hX hR eX5_costOfRank_31 rfl (by rw [cstV, if_neg (by omega)] at hq; exact hq)
  · refine v_lload_n hX eX5_costOfRank_15 rfl ?_
    refine v_goto hX eX5_costOfRank_16 (tgt := 31) rfl ?_
    exact v_lreturn hX hR eX5_costOfRank_31 rfl (by rw [cstV, if_pos (by omega), Int.add_zero] at hq; exact hq)
def digV (r c pl : Int) : Int := (r * 8 + c) * ((2 ^ (6 * (7 - pl.toNat)) : Nat) : Int)
theorem dig_all : ∀ r : Nat, r < 7 → ∀ c : Nat, c < 6 → bor (bshl (r : Int) 3) (c : Int) = (r : Int) * 8 + c := by decide +kernel
theorem dig_or {r : Int} {c : Nat} (hr : 0 ≤ r ∧ r ≤ 6) (hc : c < 6) : bor (bshl r 3) c = r * 8 + c := by
  have := dig_all r.toNat (by omega) c hc
  rw [← cast_toNat' hr.1] at this
  exact this
theorem lshl_dig {a pl : Int} (ha : 0 ≤ a ∧ a < 64) (hp : 0 ≤ pl ∧ pl ≤ 7) : lshl a (6 * (7 - pl)) = a * ((2 ^ (6 * (7 - pl.toNat)) : Nat) : Int) := by
  have e : (6 * (7 - pl)) = ((6 * (7 - pl.toNat) : Nat) : Int) := by omega
  have hk : 2 ^ (6 * (7 - pl.toNat)) ≤ 2 ^ 42 := pw2 (by omega)
  have hm : a.toNat * 2 ^ (6 * (7 - pl.toNat)) < 2 ^ 63 := by
    have : a.toNat * 2 ^ (6 * (7 - pl.toNat)) ≤ 63 * 2 ^ 42 := Nat.mul_le_mul (by omega) hk
    omega
  have := lshl_n (a := a.toNat) (k := 6 * (7 - pl.toNat)) (by omega) hm
  rw [← cast_toNat' ha.1, ← e] at this
  rw [this, Int.natCast_mul, ← cast_toNat' ha.1]
def rkc (h : Hp) (k c : Nat) : Int := if c < 5 then h k c else 6
def FPn (h : Hp) (p : Nat) (pl s : Int) (k n : Nat) : Hp := fun a b => if a = 19 ∧ 6 * p ≤ b ∧ b < 6 * p + n then cstV (rkc h k (b - 6 * p)) s else if a = 20 ∧ 6 * p ≤ b ∧ b < 6 * p + n then digV (rkc h k (b - 6 * p)) ((b - 6 * p : Nat) : Int) pl else h a b
theorem FPn_0 {h : Hp} {p : Nat} {pl s : Int} {k : Nat} : FPn h p pl s k 0 = h := by
  funext a b
  rw [FPn, if_neg (by omega), if_neg (by omega)]
theorem FPn_ne {h : Hp} {p : Nat} {pl s : Int} {k n a : Nat} (h1 : a ≠ 19) (h2 : a ≠ 20) : FPn h p pl s k n a = h a := by
  funext b
  simp [FPn, h1, h2]
theorem FPn_s {h : Hp} {p : Nat} {pl s : Int} {k n : Nat} : up (up (FPn h p pl s k n) 19 (6 * p + n) (cstV (rkc h k n) s)) 20 (6 * p + n) (digV (rkc h k n) n pl) = FPn h p pl s k (n + 1) := by
  funext a b
  simp only [up, FPn]
  by_cases e : b = 6 * p + n
  · subst e
    rw [show 6 * p + n - 6 * p = n by omega]
    by_cases a1 : a = 19
    · subst a1; simp
    · by_cases a2 : a = 20
      · subst a2; simp
      · simp [a1, a2]
  · have : (b < 6 * p + (n + 1)) ↔ b < 6 * p + n := by omega
    simp [e, this]
set_option maxHeartbeats 2000000 in
set_option maxRecDepth 20000 in
theorem c_X5_fillPupil {d : Nat} {h : Hp} {p : Nat} {pl s : Int} {k : Nat} (hp : p < 8) (hpl : 0 ≤ pl ∧ pl ≤ 7) (hs : 0 ≤ s ∧ s ≤ 300) (hk : AR k 0 5) (hk2 : k ≠ 19 ∧ k ≠ 20) (hr : ∀ j, j < 5 → 0 ≤ h k j ∧ h k j ≤ 6) : Fn (d + 1) MX5_fillPupil [mA 12, mI p, mI pl, mI s, mA k] h none (FPn h p pl s k 6) := by
  intro Q hq X hX hR
  have loop : ∀ i : Nat, i ≤ 6 → ∀ l6 l7 l8 l9, VW X 3 [some (mA 12), some (mI p), some (mI pl), some (mI s), some (mA k), some (mI i), l6, l7, l8, l9] [] (FPn h p pl s k i) := by
    refine loop_up 6 ?_ ?_
    · intro l6 l7 l8 l9
      refine v_iload hX eX5_fillPupil_3 rfl ?_
      refine v_bipush hX eX5_fillPupil_5 (by decide) ?_
      refine v_icmp_ge hX eX5_fillPupil_7 (tgt := 84) rfl ⟨by omega, by omega⟩ ⟨by omega, by omega⟩ (fun c7 => ?_) (fun c7 => False.elim ((by omega)))
      exact v_return hX hR eX5_fillPupil_84 rfl (hq)
    · intro i hi ih l6 l7 l8 l9
      have hv : 0 ≤ rkc h k i ∧ rkc h k i ≤ 6 := by
        unfold rkc
        split
        · exact hr i (by omega)
        · decide
      have fin : ∀ l6 l7 l8 l9, VW X 28 [some (mA 12), some (mI p), some (mI pl), some (mI s), some (mA k), some (mI i), l6, l7, l8, l9] [mI (rkc h k i)] (FPn h p pl s k i) := by
        intro l6 l7 l8 l9
        have ec : ((p : Int) * 6 + colI i).toNat = 6 * p + i := by
          unfold colI
          split <;> omega
        have ec2 : 0 ≤ (p : Int) * 6 + colI i ∧ (p : Int) * 6 + colI i < 48 := by
          have := colI_rng i
          omega
        refine v_istore hX eX5_fillPupil_28 rfl rfl ?_
        refine v_iload hX eX5_fillPupil_30 rfl ?_
        refine v_iconst hX eX5_fillPupil_32 ?_
        refine v_ishl hX eX5_fillPupil_33 ?_
        refine v_iload hX eX5_fillPupil_34 rfl ?_
        refine v_ior hX eX5_fillPupil_36 ?_
        rw [dig_or hv hi]
        refine v_i2l hX eX5_fillPupil_37 ⟨by omega, by omega⟩ ?_
        refine v_lstore hX eX5_fillPupil_38 rfl rfl ?_
        refine v_iload_n hX eX5_fillPupil_40 rfl ?_
        refine v_iload hX eX5_fillPupil_41 rfl ?_
        refine v_fnS hX eX5_fillPupil_43 lS_X5_45 ok_MX5_cellOf ⟨rfl, Nat.le_of_ble_eq_true rfl⟩ (Nat.le_of_ble_eq_true rfl) (c_X5_cellOf (by omega) ⟨by omega, by omega⟩) rfl ?_
        try simp only [Int.toNat_natCast, Int.toNat_zero, Int.reduceToNat]
        refine v_istore hX eX5_fillPupil_46 rfl rfl ?_
        refine v_aload_n hX eX5_fillPupil_48 rfl ?_
        refine v_getA hX eX5_fillPupil_49 fi_X5_11 ⟨by decide, rfl⟩ rfl ?_
        refine v_iload hX eX5_fillPupil_52 rfl ?_
        refine v_iload hX eX5_fillPupil_54 rfl ?_
        refine v_iload_n hX eX5_fillPupil_56 rfl ?_
        refine v_fnS hX eX5_fillPupil_57 lS_X5_49 ok_MX5_costOfRank ⟨rfl, Nat.le_of_ble_eq_true rfl⟩ (Nat.le_of_ble_eq_true rfl) (c_X5_costOfRank hv hs) rfl ?_
        try simp only [Int.toNat_natCast, Int.toNat_zero, Int.reduceToNat]
        refine v_last hX eX5_fillPupil_60 (by first | exact ⟨by decide, rfl⟩ | exact AR_rk (by omega)) ec2 ?_
        try simp only [Int.toNat_natCast, Int.toNat_zero, Int.reduceToNat]
        rw [ec]
        refine v_aload_n hX eX5_fillPupil_61 rfl ?_
        refine v_getA hX eX5_fillPupil_62 fi_X5_15 ⟨by decide, rfl⟩ rfl ?_
        refine v_iload hX eX5_fillPupil_65 rfl ?_
        refine v_lload hX eX5_fillPupil_67 rfl ?_
        refine v_bipush hX eX5_fillPupil_69 (by decide) ?_
        refine v_bipush hX eX5_fillPupil_71 (by decide) ?_
        refine v_iload_n hX eX5_fillPupil_73 rfl ?_
        refine v_isub hX eX5_fillPupil_74 ?_
        refine v_imul hX eX5_fillPupil_75 ?_
        refine v_lshl hX eX5_fillPupil_76 ?_
        rw [lshl_dig (by omega) hpl]
        refine v_last hX eX5_fillPupil_77 (by first | exact ⟨by decide, rfl⟩ | exact AR_rk (by omega)) ec2 ?_
        try simp only [Int.toNat_natCast, Int.toNat_zero, Int.reduceToNat]
        rw [ec]
        rw [show (rkc h k i * 8 + (i : Int)) * ((2 ^ (6 * (7 - pl.toNat)) : Nat) : Int) = digV (rkc h k i) i pl from rfl, FPn_s]
        refine v_iinc hX eX5_fillPupil_78 rfl rfl rfl ?_
        refine v_goto hX eX5_fillPupil_81 (tgt := 3) rfl ?_
        exact ih _ _ _ _
      have hkk : FPn h p pl s k i k = h k := FPn_ne hk2.1 hk2.2
      by_cases h5 : i < 5
      · have e : rkc h k i = h k i := if_pos h5
        rw [e] at fin
        refine v_iload hX eX5_fillPupil_3 rfl ?_
        refine v_bipush hX eX5_fillPupil_5 (by decide) ?_
        refine v_icmp_ge hX eX5_fillPupil_7 (tgt := 84) rfl ⟨by omega, by omega⟩ ⟨by omega, by omega⟩ (fun c => False.elim (by omega)) (fun _ => ?_)
        refine v_iload hX eX5_fillPupil_10 rfl ?_
        refine v_aload hX eX5_fillPupil_12 rfl ?_
        refine v_alen hX eX5_fillPupil_14 hk ?_
        refine v_icmp_ge hX eX5_fillPupil_15 (tgt := 26) rfl ⟨by omega, by omega⟩ ⟨by omega, by omega⟩ (fun c => False.elim (by omega)) (fun _ => ?_)
        refine v_aload hX eX5_fillPupil_18 rfl ?_
        refine v_iload hX eX5_fillPupil_20 rfl ?_
        refine v_iald hX eX5_fillPupil_22 hk ⟨by omega, by omega⟩ ?_
        rw [Int.toNat_natCast, hkk]
        exact v_goto hX eX5_fillPupil_23 (tgt := 28) rfl (fin _ _ _ _)
      · have e : rkc h k i = 6 := if_neg h5
        rw [e] at fin
        refine v_iload hX eX5_fillPupil_3 rfl ?_
        refine v_bipush hX eX5_fillPupil_5 (by decide) ?_
        refine v_icmp_ge hX eX5_fillPupil_7 (tgt := 84) rfl ⟨by omega, by omega⟩ ⟨by omega, by omega⟩ (fun c => False.elim (by omega)) (fun _ => ?_)
        refine v_iload hX eX5_fillPupil_10 rfl ?_
        refine v_aload hX eX5_fillPupil_12 rfl ?_
        refine v_alen hX eX5_fillPupil_14 hk ?_
        refine v_icmp_ge hX eX5_fillPupil_15 (tgt := 26) rfl ⟨by omega, by omega⟩ ⟨by omega, by omega⟩ (fun _ => ?_) (fun c => False.elim (by omega))
        refine v_bipush hX eX5_fillPupil_26 (by decide) ?_
        exact fin _ _ _ _
  have l0 := loop 0 (by omega) none none none none
  rw [FPn_0] at l0
  show VW X 0 [some (mA 12), some (mI p), some (mI pl), some (mI s), some (mA k), none, none, none, none, none] [] h
  refine v_iconst hX eX5_fillPupil_0 ?_
  refine v_istore hX eX5_fillPupil_1 rfl rfl ?_
  exact l0
def plc (h : Hp) (p : Nat) : Int := findP (h 10) p (h 1 3).toNat 0
def csC (h : Hp) (p c : Nat) : Int := cstV (rkc h (31 + p) c) (h (23 + p) 3)
def dgC (h : Hp) (p c : Nat) : Int := digV (rkc h (31 + p) c) c (plc h p)
def SFn (h : Hp) (n : Nat) : Hp := fun a b => if a = 19 ∧ b < 6 * n then csC h (b / 6) (b % 6) else if a = 20 ∧ b < 6 * n then dgC h (b / 6) (b % 6) else h a b
theorem SFn_0 {h : Hp} : SFn h 0 = h := by
  funext a b
  rw [SFn, if_neg (by omega), if_neg (by omega)]
theorem SFn_ne {h : Hp} {n a : Nat} (h1 : a ≠ 19) (h2 : a ≠ 20) : SFn h n a = h a := by
  funext b
  simp [SFn, h1, h2]
theorem SFn_RE {h : Hp} {n : Nat} : RE h (SFn h n) := RE.of (fun k hk => SFn_ne (by omega) (by omega))
theorem SFn_s {h : Hp} {i : Nat} : FPn (SFn h i) i (plc h i) (h (23 + i) 3) (31 + i) 6 = SFn h (i + 1) := by
  have e1 : ∀ c, rkc (SFn h i) (31 + i) c = rkc h (31 + i) c := fun c => by
    unfold rkc
    rw [SFn_ne (by omega) (by omega)]
  funext a b
  simp only [FPn, e1]
  by_cases hb : 6 * i ≤ b ∧ b < 6 * i + 6
  · have d1 : b / 6 = i := by omega
    have d2 : b - 6 * i = b % 6 := by omega
    by_cases a1 : a = 19
    · subst a1
      rw [if_pos ⟨rfl, hb.1, hb.2⟩, SFn, if_pos ⟨rfl, by omega⟩, csC, d1, d2]
    · by_cases a2 : a = 20
      · subst a2
        rw [if_neg (by omega), if_pos ⟨rfl, hb.1, hb.2⟩, SFn, if_neg (by omega), if_pos ⟨rfl, by omega⟩, dgC, d1, d2]
      · simp [SFn, a1, a2]
  · rw [if_neg (by omega), if_neg (by omega)]
    have : (b < 6 * (i + 1)) ↔ b < 6 * i := by omega
    simp only [SFn, this]
set_option maxHeartbeats 2000000 in
set_option maxRecDepth 20000 in
theorem c_X5_fill {d : Nat} {h : Hp} (hI : RI h) (hP : ∀ p, p < (h 1 3).toNat → 0 ≤ plc h p ∧ plc h p ≤ 7) : Fn (d + 2) MX5_fill [mA 12, mA 1] h none (SFn h (h 1 3).toNat) := by
  intro Q hq X hX hR
  have hn := hI.n
  have loop : ∀ i : Nat, i ≤ (h 1 3).toNat → ∀ l3, VW X 2 [some (mA 12), some (mA 1), some (mI i), l3] [] (SFn h i) := by
    refine loop_up _ ?_ ?_
    · intro l3
      have e1 : SFn h (h 1 3).toNat 1 3 = h 1 3 := by rw [SFn_ne (by decide) (by decide)]
      refine v_iload_n hX eX5_fill_2 rfl ?_
      refine v_aload_n hX eX5_fill_3 rfl ?_
      refine v_getI hX eX5_fill_4 fi_X5_18 ⟨by decide, rfl⟩ ?_
      refine v_icmp_ge hX eX5_fill_7 (tgt := 44) rfl ⟨by omega, by omega⟩ ⟨by omega, by omega⟩ (fun c7 => ?_) (fun c7 => False.elim ((by omega)))
      exact v_return hX hR eX5_fill_44 rfl (hq)
    · intro i hi ih l3
      have e1 : SFn h i 1 3 = h 1 3 := by rw [SFn_ne (by decide) (by decide)]
      have e3 : SFn h i (23 + i) = h (23 + i) := SFn_ne (by omega) (by omega)
      have e4 : SFn h i (31 + i) = h (31 + i) := SFn_ne (by omega) (by omega)
      have e10 : SFn h i 10 = h 10 := SFn_ne (by omega) (by omega)
      have hI2 : RI (SFn h i) := SFn_RE.ri hI
      have hpu := hI.pu (p := i) (by omega)
      have hin : inN (SFn h i) i := ⟨by omega, by rw [e1]; omega⟩
      refine v_iload_n hX eX5_fill_2 rfl ?_
      refine v_aload_n hX eX5_fill_3 rfl ?_
      refine v_getI hX eX5_fill_4 fi_X5_18 ⟨by decide, rfl⟩ ?_
      refine v_icmp_ge hX eX5_fill_7 (tgt := 44) rfl ⟨by omega, by omega⟩ ⟨by omega, by omega⟩ (fun c7 => False.elim ((by omega))) (fun c7 => ?_)
      refine v_aload_n hX eX5_fill_10 rfl ?_
      refine v_iload_n hX eX5_fill_11 rfl ?_
      refine v_fnV hX eX5_fill_12 lV_X5_24 ok_MX4_pupilOf ⟨by decide, rfl⟩ rfl ⟨rfl, Nat.le_of_ble_eq_true rfl⟩ (Nat.le_of_ble_eq_true rfl) (c_X4_pupilOf hI2 hin) rfl ?_
      try simp only [Int.toNat_natCast, Int.toNat_zero, Int.reduceToNat]
      refine v_astore_n hX eX5_fill_15 rfl rfl ?_
      refine v_aload_n hX eX5_fill_16 rfl ?_
      refine v_ifnull hX eX5_fill_17 ?_
      refine v_aload_n hX eX5_fill_20 rfl ?_
      refine v_iload_n hX eX5_fill_21 rfl ?_
      refine v_aload_n hX eX5_fill_22 rfl ?_
      refine v_iload_n hX eX5_fill_23 rfl ?_
      refine v_fnV hX eX5_fill_24 lV_X5_28 ok_MX4_placeOf ⟨by decide, rfl⟩ rfl ⟨rfl, Nat.le_of_ble_eq_true rfl⟩ (Nat.le_of_ble_eq_true rfl) (c_X4_placeOf hI2 ⟨by omega, by omega⟩) rfl ?_
      try simp only [Int.toNat_natCast, Int.toNat_zero, Int.reduceToNat]
      rw [e10, e1]
      refine v_aload_n hX eX5_fill_27 rfl ?_
      refine v_getI hX eX5_fill_28 fi_X5_32 (OB_pu (by omega)) ?_
      rw [e3]
      refine v_aload_n hX eX5_fill_31 rfl ?_
      refine v_getA hX eX5_fill_32 fi_X5_37 (OB_pu (by omega)) (RF_rk (by omega)) ?_
      refine v_fnV0 hX eX5_fill_35 lV_X5_41 ok_MX5_fillPupil ⟨by decide, rfl⟩ rfl ⟨rfl, Nat.le_of_ble_eq_true rfl⟩ (Nat.le_of_ble_eq_true rfl) (c_X5_fillPupil (p := i) (by omega) (hP i hi) hpu.2.2.1 (AR_rk (by omega)) ⟨by omega, by omega⟩ (fun j hj => by have := hpu.2.2.2.2.2.2 j hj; rw [e4]; omega)) rfl ?_
      try simp only [Int.toNat_natCast, Int.toNat_zero, Int.reduceToNat]
      rw [SFn_s]
      refine v_iinc hX eX5_fill_38 rfl rfl rfl ?_
      refine v_goto hX eX5_fill_41 (tgt := 2) rfl ?_
      exact ih _
  have l0 := loop 0 (by omega) none
  rw [SFn_0] at l0
  show VW X 0 [some (mA 12), some (mA 1), none, none] [] h
  refine v_iconst hX eX5_fill_0 ?_
  refine v_istore_n hX eX5_fill_1 rfl rfl ?_
  exact l0
set_option maxHeartbeats 2000000 in
set_option maxRecDepth 20000 in
theorem c_X5_costOf {d : Nat} {h : Hp} {p q : Int} (hp : 0 ≤ p ∧ p < 8) (hr : rng q) : Fn (d + 1) MX5_costOf [mA 12, mI p, mI q] h (some (mL (h 19 (p * 6 + colI q).toNat))) h := by
  intro Q hq X hX hR
  have := colI_rng q
  show VW X 0 [some (mA 12), some (mI p), some (mI q)] [] h
  refine v_aload_n hX eX5_costOf_0 rfl ?_
  refine v_getA hX eX5_costOf_1 fi_X5_11 ⟨by decide, rfl⟩ rfl ?_
  refine v_iload_n hX eX5_costOf_4 rfl ?_
  refine v_iload_n hX eX5_costOf_5 rfl ?_
  refine v_fnS hX eX5_costOf_6 lS_X5_45 ok_MX5_cellOf ⟨rfl, Nat.le_of_ble_eq_true rfl⟩ (Nat.le_of_ble_eq_true rfl) (c_X5_cellOf hp hr) rfl ?_
  try simp only [Int.toNat_natCast, Int.toNat_zero, Int.reduceToNat]
  refine v_lald hX eX5_costOf_9 (by first | exact ⟨by decide, rfl⟩ | exact AR_rk (by omega)) ⟨by omega, by omega⟩ ?_
  try simp only [Int.toNat_natCast, Int.toNat_zero, Int.reduceToNat]
  exact v_lreturn hX hR eX5_costOf_10 rfl (hq)
set_option maxHeartbeats 2000000 in
set_option maxRecDepth 20000 in
theorem c_X5_digitOf {d : Nat} {h : Hp} {p q : Int} (hp : 0 ≤ p ∧ p < 8) (hr : rng q) : Fn (d + 1) MX5_digitOf [mA 12, mI p, mI q] h (some (mL (h 20 (p * 6 + colI q).toNat))) h := by
  intro Q hq X hX hR
  have := colI_rng q
  show VW X 0 [some (mA 12), some (mI p), some (mI q)] [] h
  refine v_aload_n hX eX5_digitOf_0 rfl ?_
  refine v_getA hX eX5_digitOf_1 fi_X5_15 ⟨by decide, rfl⟩ rfl ?_
  refine v_iload_n hX eX5_digitOf_4 rfl ?_
  refine v_iload_n hX eX5_digitOf_5 rfl ?_
  refine v_fnS hX eX5_digitOf_6 lS_X5_45 ok_MX5_cellOf ⟨rfl, Nat.le_of_ble_eq_true rfl⟩ (Nat.le_of_ble_eq_true rfl) (c_X5_cellOf hp hr) rfl ?_
  try simp only [Int.toNat_natCast, Int.toNat_zero, Int.reduceToNat]
  refine v_lald hX eX5_digitOf_9 (by first | exact ⟨by decide, rfl⟩ | exact AR_rk (by omega)) ⟨by omega, by omega⟩ ?_
  try simp only [Int.toNat_natCast, Int.toNat_zero, Int.reduceToNat]
  exact v_lreturn hX hR eX5_digitOf_10 rfl (hq)
def CMn (h : Hp) (p : Nat) (had : Int) (n : Nat) : Hp := fun a b => if a = 19 ∧ 6 * p ≤ b ∧ b < 6 * p + n ∧ had ≠ -1 ∧ ((b - 6 * p : Nat) : Int) ≠ had then h 19 b + 1099511627776 else h a b
set_option maxHeartbeats 2000000 in
set_option maxRecDepth 20000 in
theorem c_X5_chargeMove {d : Nat} {h : Hp} {p : Nat} {had : Int} (hp : p < 8) (hr : rng had) : Fn (d + 1) MX5_chargeMove [mA 12, mI p, mI had] h none (CMn h p had 5) := by
  intro Q hq X hX hR
  have loop : ∀ i : Nat, i ≤ 5 → VW X 2 [some (mA 12), some (mI p), some (mI had), some (mI i)] [] (CMn h p had i) := by
    refine loop_up 5 ?_ ?_
    · refine v_iload_n hX eX5_chargeMove_2 rfl ?_
      refine v_iconst hX eX5_chargeMove_3 ?_
      refine v_icmp_ge hX eX5_chargeMove_4 (tgt := 39) rfl ⟨by omega, by omega⟩ ⟨by omega, by omega⟩ (fun c4 => ?_) (fun c4 => False.elim ((by omega)))
      exact v_return hX hR eX5_chargeMove_39 rfl (hq)
    · intro i hi ih
      have ec : ((p : Int) * 6 + colI i).toNat = 6 * p + i := by
        unfold colI
        split <;> omega
      have ec2 : 0 ≤ (p : Int) * 6 + colI i ∧ (p : Int) * 6 + colI i < 48 := by
        have := colI_rng i
        omega
      have e0 : had = -1 ∨ (i : Int) = had → CMn h p had i = CMn h p had (i + 1) := fun hh => by
        funext a b
        simp only [CMn]
        by_cases hb : b = 6 * p + i
        · subst hb
          rw [if_neg (by omega), if_neg (by omega)]
        · have : (b < 6 * p + (i + 1)) ↔ b < 6 * p + i := by omega
          simp only [this]
      have e1 : ¬ had = -1 → ¬ (i : Int) = had → up (CMn h p had i) 19 (6 * p + i) (CMn h p had i 19 (6 * p + i) + 1099511627776) = CMn h p had (i + 1) := fun h1 h2 => by
        funext a b
        have r : CMn h p had i 19 (6 * p + i) = h 19 (6 * p + i) := by rw [CMn, if_neg (by omega)]
        rw [r]
        simp only [up, CMn]
        by_cases hb : b = 6 * p + i
        · subst hb
          by_cases ha : a = 19
          · subst ha
            rw [if_pos ⟨rfl, rfl⟩, if_pos ⟨rfl, by omega, by omega, h1, by omega⟩]
          · simp [ha]
        · have : (b < 6 * p + (i + 1)) ↔ b < 6 * p + i := by omega
          simp [hb, this]
      refine v_iload_n hX eX5_chargeMove_2 rfl ?_
      refine v_iconst hX eX5_chargeMove_3 ?_
      refine v_icmp_ge hX eX5_chargeMove_4 (tgt := 39) rfl ⟨by omega, by omega⟩ ⟨by omega, by omega⟩ (fun c4 => False.elim ((by omega))) (fun c4 => ?_)
      refine v_iload_n hX eX5_chargeMove_7 rfl ?_
      refine v_iconst hX eX5_chargeMove_8 ?_
      refine v_icmp_eq hX eX5_chargeMove_9 (tgt := 33) rfl ⟨by omega, by omega⟩ ⟨by omega, by omega⟩ (fun c9 => ?_) (fun c9 => ?_)
      · refine v_iinc hX eX5_chargeMove_33 rfl rfl rfl ?_
        rw [e0 (Or.inl c9)]
        exact v_goto hX eX5_chargeMove_36 (tgt := 2) rfl ih
      · refine v_iload_n hX eX5_chargeMove_12 rfl ?_
        refine v_iload_n hX eX5_chargeMove_13 rfl ?_
        refine v_icmp_eq hX eX5_chargeMove_14 (tgt := 33) rfl ⟨by omega, by omega⟩ ⟨by omega, by omega⟩ (fun c14 => ?_) (fun c14 => ?_)
        · refine v_iinc hX eX5_chargeMove_33 rfl rfl rfl ?_
          rw [e0 (Or.inr c14)]
          exact v_goto hX eX5_chargeMove_36 (tgt := 2) rfl ih
        · refine v_aload_n hX eX5_chargeMove_17 rfl ?_
          refine v_getA hX eX5_chargeMove_18 fi_X5_11 ⟨by decide, rfl⟩ rfl ?_
          refine v_iload_n hX eX5_chargeMove_21 rfl ?_
          refine v_iload_n hX eX5_chargeMove_22 rfl ?_
          refine v_fnS hX eX5_chargeMove_23 lS_X5_45 ok_MX5_cellOf ⟨rfl, Nat.le_of_ble_eq_true rfl⟩ (Nat.le_of_ble_eq_true rfl) (c_X5_cellOf (by omega) ⟨by omega, by omega⟩) rfl ?_
          try simp only [Int.toNat_natCast, Int.toNat_zero, Int.reduceToNat]
          refine v_dup2 hX eX5_chargeMove_26 rfl rfl ?_
          refine v_lald hX eX5_chargeMove_27 (by first | exact ⟨by decide, rfl⟩ | exact AR_rk (by omega)) ec2 ?_
          try simp only [Int.toNat_natCast, Int.toNat_zero, Int.reduceToNat]
          refine v_ldc2 (z := 1099511627776) hX eX5_chargeMove_28 k_X5_53 (by decide) ?_
          refine v_ladd hX eX5_chargeMove_31 ?_
          refine v_last hX eX5_chargeMove_32 (by first | exact ⟨by decide, rfl⟩ | exact AR_rk (by omega)) ec2 ?_
          try simp only [Int.toNat_natCast, Int.toNat_zero, Int.reduceToNat]
          rw [ec, e1 c9 c14]
          refine v_iinc hX eX5_chargeMove_33 rfl rfl rfl ?_
          refine v_goto hX eX5_chargeMove_36 (tgt := 2) rfl ?_
          exact ih
  have l0 := loop 0 (by omega)
  rw [show CMn h p had 0 = h from by funext a b; rw [CMn, if_neg (by omega)]] at l0
  show VW X 0 [some (mA 12), some (mI p), some (mI had), none] [] h
  refine v_iconst hX eX5_chargeMove_0 ?_
  refine v_istore_n hX eX5_chargeMove_1 rfl rfl ?_
  exact l0
