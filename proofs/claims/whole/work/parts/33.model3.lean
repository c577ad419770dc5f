/-! the model's public methods: each begins with no refusal -/
theorem WR.add {c g : Hp} {p j : Nat} (w : WR c g p) (hj : (j : Int) < c 1 4) (hm : c 1 4 ≤ 5) (h6 : c (31 + p) j = 6) (h5 : g 47 p < 5) : WR (addW c p j) (mAdd g p j) p := by
  obtain ⟨w1, w2, w3, w4⟩ := w
  have e47 : mAdd g p j 47 p = g 47 p + 1 := up_same
  have e48 : ∀ b, mAdd g p j 48 b = if b = 5 * p + (g 47 p).toNat then (j : Int) else g 48 b := fun b => by
    unfold mAdd
    rw [up_ob (by decide)]
    simp [up]
  have c14 : addW c p j 1 4 = c 1 4 := by unfold addW; rw [up_ob (by omega), up_ob (by omega)]
  have c31 : ∀ b, addW c p j (31 + p) b = if b = j then c (23 + p) 2 + 1 else c (31 + p) b := fun b => by
    unfold addW
    simp only [up]
    by_cases e : b = j
    · simp [e]
    · simp [e]
  have c23 : addW c p j (23 + p) 2 = c (23 + p) 2 + 1 := by
    unfold addW
    rw [up_ob (by omega), up_same]
  refine ⟨by rw [e47]; omega, ?_, ?_, by rw [e47, c23]; omega⟩
  · rw [e47, c14]
    intro k hk
    rw [e48, c31]
    by_cases e : k = (g 47 p).toNat
    · rw [if_pos (by omega), if_pos (by omega)]
      exact ⟨⟨by omega, hj⟩, by omega⟩
    · obtain ⟨a, b⟩ := w2 k (by omega)
      rw [if_neg (by omega)]
      refine ⟨a, ?_⟩
      rw [if_neg (fun z => by rw [z, h6] at b; omega)]
      exact b
  · rw [e47]
    intro i hi hne
    rw [c31] at hne
    by_cases e : i = j
    · exact ⟨(g 47 p).toNat, by omega, by rw [e48, if_pos rfl, e]⟩
    · rw [if_neg e] at hne
      obtain ⟨k, k1, k2⟩ := w3 i hi hne
      exact ⟨k, by omega, by rw [e48, if_neg (by omega)]; exact k2⟩
set_option maxHeartbeats 2000000 in
set_option maxRecDepth 20000 in
theorem c_X8_refuse {d : Nat} {h : Hp} : Fn d MX8_refuse [mA 44] h (some (mI 0)) (up h 44 0 1) := by
  intro Q hq X hX hR
  show VW X 0 [some (mA 44)] [] h
  refine v_aload_n hX eX8_refuse_0 rfl ?_
  refine v_iconst hX eX8_refuse_1 ?_
  refine v_putI hX eX8_refuse_2 fi_X8_80 ⟨by decide, rfl⟩ ?_
  refine v_iconst hX eX8_refuse_5 ?_
  exact v_ireturn hX hR eX8_refuse_6 rfl (hq)
set_option maxHeartbeats 2000000 in
set_option maxRecDepth 20000 in
theorem c_X8_thrown {d : Nat} {h : Hp} : Fn d MX8_thrown [mA 44] h (some (mI (h 44 0))) h := by
  intro Q hq X hX hR
  show VW X 0 [some (mA 44)] [] h
  refine v_aload_n hX eX8_thrown_0 rfl ?_
  refine v_getI hX eX8_thrown_1 fi_X8_80 ⟨by decide, rfl⟩ ?_
  exact v_ireturn hX hR eX8_thrown_4 rfl (hq)
set_option maxHeartbeats 2000000 in
set_option maxRecDepth 20000 in
theorem c_X8_areTwo {d : Nat} {h : Hp} {a b : Int} (hn : 0 ≤ h 44 1 ∧ h 44 1 ≤ 8) (ha : rng a) (hb : rng b) : Fn (d + 2) MX8_areTwo [mA 44, mI a, mI b] h (some (mI (b01 ((0 ≤ a ∧ a < h 44 1) ∧ (0 ≤ b ∧ b < h 44 1) ∧ a ≠ b)))) h := by
  intro Q hq X hX hR
  show VW X 0 [some (mA 44), some (mI a), some (mI b)] [] h
  refine v_aload_n hX eX8_areTwo_0 rfl ?_
  refine v_iload_n hX eX8_areTwo_1 rfl ?_
  refine v_fnV hX eX8_areTwo_2 lV_X8_100 ok_MX8_isPupil ⟨by decide, rfl⟩ rfl ⟨rfl, Nat.le_of_ble_eq_true rfl⟩ (Nat.le_of_ble_eq_true rfl) (c_X8_isPupil hn ha) rfl ?_
  try simp only [Int.toNat_natCast, Int.toNat_zero, Int.reduceToNat]
  refine v_ifB_eq hX eX8_areTwo_5 (tgt := 25) rfl (fun c5 => ?_) (fun c5 => ?_)
  · refine v_iconst hX eX8_areTwo_25 ?_
    exact v_zreturn hX hR eX8_areTwo_26 rfl (by omega) (q_f (fun z => c5 z.1) hq)
  · refine v_aload_n hX eX8_areTwo_8 rfl ?_
    refine v_iload_n hX eX8_areTwo_9 rfl ?_
    refine v_fnV hX eX8_areTwo_10 lV_X8_100 ok_MX8_isPupil ⟨by decide, rfl⟩ rfl ⟨rfl, Nat.le_of_ble_eq_true rfl⟩ (Nat.le_of_ble_eq_true rfl) (c_X8_isPupil hn hb) rfl ?_
    try simp only [Int.toNat_natCast, Int.toNat_zero, Int.reduceToNat]
    refine v_ifB_eq hX eX8_areTwo_13 (tgt := 25) rfl (fun c13 => ?_) (fun c13 => ?_)
    · refine v_iconst hX eX8_areTwo_25 ?_
      exact v_zreturn hX hR eX8_areTwo_26 rfl (by omega) (q_f (fun z => c13 z.2.1) hq)
    · refine v_iload_n hX eX8_areTwo_16 rfl ?_
      refine v_iload_n hX eX8_areTwo_17 rfl ?_
      refine v_icmp_eq hX eX8_areTwo_18 (tgt := 25) rfl ⟨by omega, by omega⟩ ⟨by omega, by omega⟩ (fun c18 => ?_) (fun c18 => ?_)
      · refine v_iconst hX eX8_areTwo_25 ?_
        exact v_zreturn hX hR eX8_areTwo_26 rfl (by omega) (q_f (fun z => z.2.2 c18) hq)
      · refine v_iconst hX eX8_areTwo_21 ?_
        refine v_goto hX eX8_areTwo_22 (tgt := 26) rfl ?_
        exact v_zreturn hX hR eX8_areTwo_26 rfl (by omega) (q_t ⟨c5, c13, c18⟩ hq)
def mPup (g : Hp) (k : Int) : Hp := up (up (up (up (up (up (up g 44 1 (g 44 1 + 1)) 45 (g 44 1).toNat k) 46 (g 44 1).toNat 1) 47 (g 44 1).toNat 0) 49 (g 44 1).toNat 0) 50 (g 44 1).toNat (-1)) 53 (g 44 1).toNat (g 44 1)
set_option maxHeartbeats 2000000 in
set_option maxRecDepth 20000 in
theorem c_X8_pupil {d : Nat} {h g : Hp} {k : Int} (hg : up h 44 0 0 = g) (hn : 0 ≤ g 44 1 ∧ g 44 1 < 8) (hk : 0 ≤ k ∧ k ≤ 255) : Fn (d + 1) MX8_pupil [mA 44, mI k] h (some (mI (g 44 1))) (mPup g k) := by
  intro Q hq X hX hR
  show VW X 0 [some (mA 44), some (mI k), none] [] h
  refine v_aload_n hX eX8_pupil_0 rfl ?_
  refine v_iconst hX eX8_pupil_1 ?_
  refine v_putI hX eX8_pupil_2 fi_X8_80 ⟨by decide, rfl⟩ ?_
  rw [hg]
  refine v_iload_n hX eX8_pupil_5 rfl ?_
  refine v_i2l hX eX8_pupil_6 ⟨by omega, by omega⟩ ?_
  refine v_lconst (z := 0) hX eX8_pupil_7 (by decide) ?_
  refine v_ldc2 (z := 255) hX eX8_pupil_8 k_X8_94 (by decide) ?_
  refine v_fnS hX eX8_pupil_11 lS_X8_87 ok_MX8_in ⟨rfl, Nat.le_of_ble_eq_true rfl⟩ (Nat.le_of_ble_eq_true rfl) (c_X8_in ⟨by omega, by omega⟩ ⟨by omega, by omega⟩ ⟨by omega, by omega⟩) rfl ?_
  try simp only [Int.toNat_natCast, Int.toNat_zero, Int.reduceToNat]
  refine v_ifB_eq hX eX8_pupil_14 (tgt := 26) rfl (fun c14 => False.elim ((c14 hk))) (fun c14 => ?_)
  refine v_aload_n hX eX8_pupil_17 rfl ?_
  refine v_getI hX eX8_pupil_18 fi_X8_84 ⟨by decide, rfl⟩ ?_
  refine v_bipush hX eX8_pupil_21 (by decide) ?_
  refine v_icmp_ne hX eX8_pupil_23 (tgt := 28) rfl ⟨by omega, by omega⟩ ⟨by omega, by omega⟩ (fun c23 => ?_) (fun c23 => False.elim ((by omega)))
  refine v_aload_n hX eX8_pupil_28 rfl ?_
  refine v_getI hX eX8_pupil_29 fi_X8_84 ⟨by decide, rfl⟩ ?_
  refine v_istore_n hX eX8_pupil_32 rfl rfl ?_
  refine v_aload_n hX eX8_pupil_33 rfl ?_
  refine v_dup hX eX8_pupil_34 rfl ?_
  refine v_getI hX eX8_pupil_35 fi_X8_84 ⟨by decide, rfl⟩ ?_
  refine v_iconst hX eX8_pupil_38 ?_
  refine v_iadd hX eX8_pupil_39 ?_
  refine v_putI hX eX8_pupil_40 fi_X8_84 ⟨by decide, rfl⟩ ?_
  refine v_aload_n hX eX8_pupil_43 rfl ?_
  refine v_getA hX eX8_pupil_44 fi_X8_9 ⟨by decide, rfl⟩ rfl ?_
  refine v_iload_n hX eX8_pupil_47 rfl ?_
  refine v_iload_n hX eX8_pupil_48 rfl ?_
  refine v_iast hX eX8_pupil_49 (by first | exact ⟨by decide, rfl⟩ | exact AR_rk (by omega)) ⟨by omega, by omega⟩ ?_
  try simp only [Int.toNat_natCast, Int.toNat_zero, Int.reduceToNat]
  refine v_aload_n hX eX8_pupil_50 rfl ?_
  refine v_getA hX eX8_pupil_51 fi_X8_13 ⟨by decide, rfl⟩ rfl ?_
  refine v_iload_n hX eX8_pupil_54 rfl ?_
  refine v_iconst hX eX8_pupil_55 ?_
  refine v_zast hX eX8_pupil_56 (by first | exact ⟨by decide, rfl⟩ | exact AR_rk (by omega)) ⟨by omega, by omega⟩ (by omega) ?_
  try simp only [Int.toNat_natCast, Int.toNat_zero, Int.reduceToNat]
  refine v_aload_n hX eX8_pupil_57 rfl ?_
  refine v_getA hX eX8_pupil_58 fi_X8_17 ⟨by decide, rfl⟩ rfl ?_
  refine v_iload_n hX eX8_pupil_61 rfl ?_
  refine v_iconst hX eX8_pupil_62 ?_
  refine v_iast hX eX8_pupil_63 (by first | exact ⟨by decide, rfl⟩ | exact AR_rk (by omega)) ⟨by omega, by omega⟩ ?_
  try simp only [Int.toNat_natCast, Int.toNat_zero, Int.reduceToNat]
  refine v_aload_n hX eX8_pupil_64 rfl ?_
  refine v_getA hX eX8_pupil_65 fi_X8_23 ⟨by decide, rfl⟩ rfl ?_
  refine v_iload_n hX eX8_pupil_68 rfl ?_
  refine v_iconst hX eX8_pupil_69 ?_
  refine v_iast hX eX8_pupil_70 (by first | exact ⟨by decide, rfl⟩ | exact AR_rk (by omega)) ⟨by omega, by omega⟩ ?_
  try simp only [Int.toNat_natCast, Int.toNat_zero, Int.reduceToNat]
  refine v_aload_n hX eX8_pupil_71 rfl ?_
  refine v_getA hX eX8_pupil_72 fi_X8_26 ⟨by decide, rfl⟩ rfl ?_
  refine v_iload_n hX eX8_pupil_75 rfl ?_
  refine v_iconst hX eX8_pupil_76 ?_
  refine v_iast hX eX8_pupil_77 (by first | exact ⟨by decide, rfl⟩ | exact AR_rk (by omega)) ⟨by omega, by omega⟩ ?_
  try simp only [Int.toNat_natCast, Int.toNat_zero, Int.reduceToNat]
  refine v_aload_n hX eX8_pupil_78 rfl ?_
  refine v_getA hX eX8_pupil_79 fi_X8_35 ⟨by decide, rfl⟩ rfl ?_
  refine v_iload_n hX eX8_pupil_82 rfl ?_
  refine v_iload_n hX eX8_pupil_83 rfl ?_
  refine v_iast hX eX8_pupil_84 (by first | exact ⟨by decide, rfl⟩ | exact AR_rk (by omega)) ⟨by omega, by omega⟩ ?_
  try simp only [Int.toNat_natCast, Int.toNat_zero, Int.reduceToNat]
  refine v_iload_n hX eX8_pupil_85 rfl ?_
  exact v_ireturn hX hR eX8_pupil_86 rfl (hq)
set_option maxHeartbeats 2000000 in
set_option maxRecDepth 20000 in
theorem c_X8_pupil_N {d : Nat} {h g : Hp} {k : Int} (hg : up h 44 0 0 = g) (hn : 0 ≤ g 44 1 ∧ g 44 1 ≤ 8) (hk : rng k) (bad : k < 0 ∨ 255 < k ∨ g 44 1 = 8) : Fn (d + 1) MX8_pupil [mA 44, mI k] h (some (mI (-1))) g := by
  intro Q hq X hX hR
  show VW X 0 [some (mA 44), some (mI k), none] [] h
  refine v_aload_n hX eX8_pupil_0 rfl ?_
  refine v_iconst hX eX8_pupil_1 ?_
  refine v_putI hX eX8_pupil_2 fi_X8_80 ⟨by decide, rfl⟩ ?_
  rw [hg]
  refine v_iload_n hX eX8_pupil_5 rfl ?_
  refine v_i2l hX eX8_pupil_6 ⟨by omega, by omega⟩ ?_
  refine v_lconst (z := 0) hX eX8_pupil_7 (by decide) ?_
  refine v_ldc2 (z := 255) hX eX8_pupil_8 k_X8_94 (by decide) ?_
  refine v_fnS hX eX8_pupil_11 lS_X8_87 ok_MX8_in ⟨rfl, Nat.le_of_ble_eq_true rfl⟩ (Nat.le_of_ble_eq_true rfl) (c_X8_in ⟨by omega, by omega⟩ ⟨by omega, by omega⟩ ⟨by omega, by omega⟩) rfl ?_
  try simp only [Int.toNat_natCast, Int.toNat_zero, Int.reduceToNat]
  refine v_ifB_eq hX eX8_pupil_14 (tgt := 26) rfl (fun c14 => ?_) (fun c14 => ?_)
  · refine v_iconst hX eX8_pupil_26 ?_
    exact v_ireturn hX hR eX8_pupil_27 rfl (hq)
  · refine v_aload_n hX eX8_pupil_17 rfl ?_
    refine v_getI hX eX8_pupil_18 fi_X8_84 ⟨by decide, rfl⟩ ?_
    refine v_bipush hX eX8_pupil_21 (by decide) ?_
    refine v_icmp_ne hX eX8_pupil_23 (tgt := 28) rfl ⟨by omega, by omega⟩ ⟨by omega, by omega⟩ (fun c23 => False.elim ((by omega))) (fun c23 => ?_)
    refine v_iconst hX eX8_pupil_26 ?_
    exact v_ireturn hX hR eX8_pupil_27 rfl (hq)
def mPrj (g : Hp) (k l m s ld : Int) : Hp := up (up (up (up (up (up (up g 44 11 (g 44 11 + 1)) 54 (g 44 11).toNat k) 55 (g 44 11).toNat l) 56 (g 44 11).toNat m) 57 (g 44 11).toNat s) 58 (g 44 11).toNat ld) 59 (g 44 11).toNat 1
def mPok (g : Hp) (k l m s ld : Int) : Prop := (0 ≤ k ∧ k ≤ 3) ∧ 1 ≤ l ∧ l ≤ m ∧ m ≤ 8 ∧ (0 ≤ s ∧ s ≤ 255) ∧ (k = 3 → 0 ≤ ld ∧ ld < g 44 1) ∧ g 44 11 < 5
set_option maxHeartbeats 2000000 in
set_option maxRecDepth 20000 in
theorem c_X8_project {d : Nat} {h g : Hp} {k l m s ld : Int} (hg : up h 44 0 0 = g) (hn : 0 ≤ g 44 1 ∧ g 44 1 ≤ 8) (hm : 0 ≤ g 44 11 ∧ g 44 11 ≤ 5) (hr : rng ld) (ok : mPok g k l m s ld) : Fn (d + 2) MX8_project [mA 44, mI k, mI l, mI m, mI s, mI ld] h (some (mI (g 44 11))) (mPrj g k l m s ld) := by
  intro Q hq X hX hR
  obtain ⟨o1, o2, o3, o4, o5, o6, o7⟩ := ok
  show VW X 0 [some (mA 44), some (mI k), some (mI l), some (mI m), some (mI s), some (mI ld), none, none] [] h
  refine v_aload_n hX eX8_project_0 rfl ?_
  refine v_iconst hX eX8_project_1 ?_
  refine v_putI hX eX8_project_2 fi_X8_80 ⟨by decide, rfl⟩ ?_
  rw [hg]
  refine v_iload_n hX eX8_project_5 rfl ?_
  refine v_i2l hX eX8_project_6 ⟨by omega, by omega⟩ ?_
  refine v_lconst (z := 0) hX eX8_project_7 (by decide) ?_
  refine v_ldc2 (z := 3) hX eX8_project_8 k_X8_96 (by decide) ?_
  refine v_fnS hX eX8_project_11 lS_X8_87 ok_MX8_in ⟨rfl, Nat.le_of_ble_eq_true rfl⟩ (Nat.le_of_ble_eq_true rfl) (c_X8_in ⟨by omega, by omega⟩ ⟨by omega, by omega⟩ ⟨by omega, by omega⟩) rfl ?_
  try simp only [Int.toNat_natCast, Int.toNat_zero, Int.reduceToNat]
  refine v_ifB_eq hX eX8_project_14 (tgt := 81) rfl (fun c14 => False.elim ((c14 o1))) (fun c14 => ?_)
  refine v_iload_n hX eX8_project_17 rfl ?_
  refine v_i2l hX eX8_project_18 ⟨by omega, by omega⟩ ?_
  refine v_lconst (z := 1) hX eX8_project_19 (by decide) ?_
  refine v_ldc2 (z := 8) hX eX8_project_20 k_X8_98 (by decide) ?_
  refine v_fnS hX eX8_project_23 lS_X8_87 ok_MX8_in ⟨rfl, Nat.le_of_ble_eq_true rfl⟩ (Nat.le_of_ble_eq_true rfl) (c_X8_in ⟨by omega, by omega⟩ ⟨by omega, by omega⟩ ⟨by omega, by omega⟩) rfl ?_
  try simp only [Int.toNat_natCast, Int.toNat_zero, Int.reduceToNat]
  refine v_ifB_eq hX eX8_project_26 (tgt := 81) rfl (fun c26 => False.elim ((c26 ⟨by omega, by omega⟩))) (fun c26 => ?_)
  refine v_iload_n hX eX8_project_29 rfl ?_
  refine v_i2l hX eX8_project_30 ⟨by omega, by omega⟩ ?_
  refine v_iload_n hX eX8_project_31 rfl ?_
  refine v_i2l hX eX8_project_32 ⟨by omega, by omega⟩ ?_
  refine v_ldc2 (z := 8) hX eX8_project_33 k_X8_98 (by decide) ?_
  refine v_fnS hX eX8_project_36 lS_X8_87 ok_MX8_in ⟨rfl, Nat.le_of_ble_eq_true rfl⟩ (Nat.le_of_ble_eq_true rfl) (c_X8_in ⟨by omega, by omega⟩ ⟨by omega, by omega⟩ ⟨by omega, by omega⟩) rfl ?_
  try simp only [Int.toNat_natCast, Int.toNat_zero, Int.reduceToNat]
  refine v_ifB_eq hX eX8_project_39 (tgt := 81) rfl (fun c39 => False.elim ((c39 ⟨by omega, by omega⟩))) (fun c39 => ?_)
  refine v_iload hX eX8_project_42 rfl ?_
  refine v_i2l hX eX8_project_44 ⟨by omega, by omega⟩ ?_
  refine v_lconst (z := 0) hX eX8_project_45 (by decide) ?_
  refine v_ldc2 (z := 255) hX eX8_project_46 k_X8_94 (by decide) ?_
  refine v_fnS hX eX8_project_49 lS_X8_87 ok_MX8_in ⟨rfl, Nat.le_of_ble_eq_true rfl⟩ (Nat.le_of_ble_eq_true rfl) (c_X8_in ⟨by omega, by omega⟩ ⟨by omega, by omega⟩ ⟨by omega, by omega⟩) rfl ?_
  try simp only [Int.toNat_natCast, Int.toNat_zero, Int.reduceToNat]
  refine v_ifB_eq hX eX8_project_52 (tgt := 81) rfl (fun c52 => False.elim ((c52 o5))) (fun c52 => ?_)
  refine v_iload_n hX eX8_project_55 rfl ?_
  refine v_iconst hX eX8_project_56 ?_
  refine v_icmp_ne hX eX8_project_57 (tgt := 69) rfl ⟨by omega, by omega⟩ ⟨by omega, by omega⟩ (fun c57 => ?_) (fun c57 => ?_)
  · refine v_aload_n hX eX8_project_69 rfl ?_
    refine v_getI hX eX8_project_70 fi_X8_91 ⟨by decide, rfl⟩ ?_
    refine v_iconst hX eX8_project_73 ?_
    refine v_icmp_ge hX eX8_project_74 (tgt := 81) rfl ⟨by omega, by omega⟩ ⟨by omega, by omega⟩ (fun c74 => False.elim ((by omega))) (fun c74 => ?_)
    refine v_iconst hX eX8_project_77 ?_
    refine v_goto hX eX8_project_78 (tgt := 82) rfl ?_
    refine v_istore hX eX8_project_82 rfl rfl ?_
    refine v_iload hX eX8_project_84 rfl ?_
    refine v_if_ne hX eX8_project_86 (tgt := 91) rfl ⟨by decide, by decide⟩ (fun _ => ?_) (fun c => absurd c (by decide))
    refine v_aload_n hX eX8_project_91 rfl ?_
    refine v_getI hX eX8_project_92 fi_X8_91 ⟨by decide, rfl⟩ ?_
    refine v_istore hX eX8_project_95 rfl rfl ?_
    refine v_aload_n hX eX8_project_97 rfl ?_
    refine v_dup hX eX8_project_98 rfl ?_
    refine v_getI hX eX8_project_99 fi_X8_91 ⟨by decide, rfl⟩ ?_
    refine v_iconst hX eX8_project_102 ?_
    refine v_iadd hX eX8_project_103 ?_
    refine v_putI hX eX8_project_104 fi_X8_91 ⟨by decide, rfl⟩ ?_
    refine v_aload_n hX eX8_project_107 rfl ?_
    refine v_getA hX eX8_project_108 fi_X8_38 ⟨by decide, rfl⟩ rfl ?_
    refine v_iload hX eX8_project_111 rfl ?_
    refine v_iload_n hX eX8_project_113 rfl ?_
    refine v_iast hX eX8_project_114 (by first | exact ⟨by decide, rfl⟩ | exact AR_rk (by omega)) ⟨by omega, by omega⟩ ?_
    try simp only [Int.toNat_natCast, Int.toNat_zero, Int.reduceToNat]
    refine v_aload_n hX eX8_project_115 rfl ?_
    refine v_getA hX eX8_project_116 fi_X8_41 ⟨by decide, rfl⟩ rfl ?_
    refine v_iload hX eX8_project_119 rfl ?_
    refine v_iload_n hX eX8_project_121 rfl ?_
    refine v_iast hX eX8_project_122 (by first | exact ⟨by decide, rfl⟩ | exact AR_rk (by omega)) ⟨by omega, by omega⟩ ?_
    try simp only [Int.toNat_natCast, Int.toNat_zero, Int.reduceToNat]
    refine v_aload_n hX eX8_project_123 rfl ?_
    refine v_getA hX eX8_project_124 fi_X8_44 ⟨by decide, rfl⟩ rfl ?_
    refine v_iload hX eX8_project_127 rfl ?_
    refine v_iload_n hX eX8_project_129 rfl ?_
    refine v_iast hX eX8_project_130 (by first | exact ⟨by decide, rfl⟩ | exact AR_rk (by omega)) ⟨by omega, by omega⟩ ?_
    try simp only [Int.toNat_natCast, Int.toNat_zero, Int.reduceToNat]
    refine v_aload_n hX eX8_project_131 rfl ?_
    refine v_getA hX eX8_project_132 fi_X8_47 ⟨by decide, rfl⟩ rfl ?_
    refine v_iload hX eX8_project_135 rfl ?_
    refine v_iload hX eX8_project_137 rfl ?_
    refine v_iast hX eX8_project_139 (by first | exact ⟨by decide, rfl⟩ | exact AR_rk (by omega)) ⟨by omega, by omega⟩ ?_
    try simp only [Int.toNat_natCast, Int.toNat_zero, Int.reduceToNat]
    refine v_aload_n hX eX8_project_140 rfl ?_
    refine v_getA hX eX8_project_141 fi_X8_50 ⟨by decide, rfl⟩ rfl ?_
    refine v_iload hX eX8_project_144 rfl ?_
    refine v_iload hX eX8_project_146 rfl ?_
    refine v_iast hX eX8_project_148 (by first | exact ⟨by decide, rfl⟩ | exact AR_rk (by omega)) ⟨by omega, by omega⟩ ?_
    try simp only [Int.toNat_natCast, Int.toNat_zero, Int.reduceToNat]
    refine v_aload_n hX eX8_project_149 rfl ?_
    refine v_getA hX eX8_project_150 fi_X8_53 ⟨by decide, rfl⟩ rfl ?_
    refine v_iload hX eX8_project_153 rfl ?_
    refine v_iconst hX eX8_project_155 ?_
    refine v_zast hX eX8_project_156 (by first | exact ⟨by decide, rfl⟩ | exact AR_rk (by omega)) ⟨by omega, by omega⟩ (by omega) ?_
    try simp only [Int.toNat_natCast, Int.toNat_zero, Int.reduceToNat]
    refine v_iload hX eX8_project_157 rfl ?_
    exact v_ireturn hX hR eX8_project_159 rfl (hq)
  · refine v_aload_n hX eX8_project_60 rfl ?_
    refine v_iload hX eX8_project_61 rfl ?_
    refine v_fnV hX eX8_project_63 lV_X8_100 ok_MX8_isPupil ⟨by decide, rfl⟩ rfl ⟨rfl, Nat.le_of_ble_eq_true rfl⟩ (Nat.le_of_ble_eq_true rfl) (c_X8_isPupil hn hr) rfl ?_
    try simp only [Int.toNat_natCast, Int.toNat_zero, Int.reduceToNat]
    refine v_ifB_eq hX eX8_project_66 (tgt := 81) rfl (fun c66 => False.elim ((c66 (o6 (by omega))))) (fun c66 => ?_)
    refine v_aload_n hX eX8_project_69 rfl ?_
    refine v_getI hX eX8_project_70 fi_X8_91 ⟨by decide, rfl⟩ ?_
    refine v_iconst hX eX8_project_73 ?_
    refine v_icmp_ge hX eX8_project_74 (tgt := 81) rfl ⟨by omega, by omega⟩ ⟨by omega, by omega⟩ (fun c74 => False.elim ((by omega))) (fun c74 => ?_)
    refine v_iconst hX eX8_project_77 ?_
    refine v_goto hX eX8_project_78 (tgt := 82) rfl ?_
    refine v_istore hX eX8_project_82 rfl rfl ?_
    refine v_iload hX eX8_project_84 rfl ?_
    refine v_if_ne hX eX8_project_86 (tgt := 91) rfl ⟨by decide, by decide⟩ (fun _ => ?_) (fun c => absurd c (by decide))
    refine v_aload_n hX eX8_project_91 rfl ?_
    refine v_getI hX eX8_project_92 fi_X8_91 ⟨by decide, rfl⟩ ?_
    refine v_istore hX eX8_project_95 rfl rfl ?_
    refine v_aload_n hX eX8_project_97 rfl ?_
    refine v_dup hX eX8_project_98 rfl ?_
    refine v_getI hX eX8_project_99 fi_X8_91 ⟨by decide, rfl⟩ ?_
    refine v_iconst hX eX8_project_102 ?_
    refine v_iadd hX eX8_project_103 ?_
    refine v_putI hX eX8_project_104 fi_X8_91 ⟨by decide, rfl⟩ ?_
    refine v_aload_n hX eX8_project_107 rfl ?_
    refine v_getA hX eX8_project_108 fi_X8_38 ⟨by decide, rfl⟩ rfl ?_
    refine v_iload hX eX8_project_111 rfl ?_
    refine v_iload_n hX eX8_project_113 rfl ?_
    refine v_iast hX eX8_project_114 (by first | exact ⟨by decide, rfl⟩ | exact AR_rk (by omega)) ⟨by omega, by omega⟩ ?_
    try simp only [Int.toNat_natCast, Int.toNat_zero, Int.reduceToNat]
    refine v_aload_n hX eX8_project_115 rfl ?_
    refine v_getA hX eX8_project_116 fi_X8_41 ⟨by decide, rfl⟩ rfl ?_
    refine v_iload hX eX8_project_119 rfl ?_
    refine v_iload_n hX eX8_project_121 rfl ?_
    refine v_iast hX eX8_project_122 (by first | exact ⟨by decide, rfl⟩ | exact AR_rk (by omega)) ⟨by omega, by omega⟩ ?_
    try simp only [Int.toNat_natCast, Int.toNat_zero, Int.reduceToNat]
    refine v_aload_n hX eX8_project_123 rfl ?_
    refine v_getA hX eX8_project_124 fi_X8_44 ⟨by decide, rfl⟩ rfl ?_
    refine v_iload hX eX8_project_127 rfl ?_
    refine v_iload_n hX eX8_project_129 rfl ?_
    refine v_iast hX eX8_project_130 (by first | exact ⟨by decide, rfl⟩ | exact AR_rk (by omega)) ⟨by omega, by omega⟩ ?_
    try simp only [Int.toNat_natCast, Int.toNat_zero, Int.reduceToNat]
    refine v_aload_n hX eX8_project_131 rfl ?_
    refine v_getA hX eX8_project_132 fi_X8_47 ⟨by decide, rfl⟩ rfl ?_
    refine v_iload hX eX8_project_135 rfl ?_
    refine v_iload hX eX8_project_137 rfl ?_
    refine v_iast hX eX8_project_139 (by first | exact ⟨by decide, rfl⟩ | exact AR_rk (by omega)) ⟨by omega, by omega⟩ ?_
    try simp only [Int.toNat_natCast, Int.toNat_zero, Int.reduceToNat]
    refine v_aload_n hX eX8_project_140 rfl ?_
    refine v_getA hX eX8_project_141 fi_X8_50 ⟨by decide, rfl⟩ rfl ?_
    refine v_iload hX eX8_project_144 rfl ?_
    refine v_iload hX eX8_project_146 rfl ?_
    refine v_iast hX eX8_project_148 (by first | exact ⟨by decide, rfl⟩ | exact AR_rk (by omega)) ⟨by omega, by omega⟩ ?_
    try simp only [Int.toNat_natCast, Int.toNat_zero, Int.reduceToNat]
    refine v_aload_n hX eX8_project_149 rfl ?_
    refine v_getA hX eX8_project_150 fi_X8_53 ⟨by decide, rfl⟩ rfl ?_
    refine v_iload hX eX8_project_153 rfl ?_
    refine v_iconst hX eX8_project_155 ?_
    refine v_zast hX eX8_project_156 (by first | exact ⟨by decide, rfl⟩ | exact AR_rk (by omega)) ⟨by omega, by omega⟩ (by omega) ?_
    try simp only [Int.toNat_natCast, Int.toNat_zero, Int.reduceToNat]
    refine v_iload hX eX8_project_157 rfl ?_
    exact v_ireturn hX hR eX8_project_159 rfl (hq)
set_option maxHeartbeats 2000000 in
set_option maxRecDepth 20000 in
theorem c_X8_project_N {d : Nat} {h g : Hp} {k l m s ld : Int} (hg : up h 44 0 0 = g) (hn : 0 ≤ g 44 1 ∧ g 44 1 ≤ 8) (hmm : 0 ≤ g 44 11 ∧ g 44 11 ≤ 5) (hk : rng k) (hl : rng l) (hm : rng m) (hs : rng s) (hr : rng ld) (bad : ¬ mPok g k l m s ld) : Fn (d + 2) MX8_project [mA 44, mI k, mI l, mI m, mI s, mI ld] h (some (mI (-1))) g := by
  intro Q hq X hX hR
  have e0 : VW X 81 [some (mA 44), some (mI k), some (mI l), some (mI m), some (mI s), some (mI ld), none, none] [] g := by
    refine v_iconst hX eX8_project_81 ?_
    refine v_istore hX eX8_project_82 rfl rfl ?_
    refine v_iload hX eX8_project_84 rfl ?_
    refine v_if_ne hX eX8_project_86 (tgt := 91) rfl ⟨by decide, by decide⟩ (fun c => absurd rfl c) (fun _ => ?_)
    refine v_iconst hX eX8_project_89 ?_
    exact v_ireturn hX hR eX8_project_90 rfl (hq)
  show VW X 0 [some (mA 44), some (mI k), some (mI l), some (mI m), some (mI s), some (mI ld), none, none] [] h
  refine v_aload_n hX eX8_project_0 rfl ?_
  refine v_iconst hX eX8_project_1 ?_
  refine v_putI hX eX8_project_2 fi_X8_80 ⟨by decide, rfl⟩ ?_
  rw [hg]
  refine v_iload_n hX eX8_project_5 rfl ?_
  refine v_i2l hX eX8_project_6 ⟨by omega, by omega⟩ ?_
  refine v_lconst (z := 0) hX eX8_project_7 (by decide) ?_
  refine v_ldc2 (z := 3) hX eX8_project_8 k_X8_96 (by decide) ?_
  refine v_fnS hX eX8_project_11 lS_X8_87 ok_MX8_in ⟨rfl, Nat.le_of_ble_eq_true rfl⟩ (Nat.le_of_ble_eq_true rfl) (c_X8_in ⟨by omega, by omega⟩ ⟨by omega, by omega⟩ ⟨by omega, by omega⟩) rfl ?_
  try simp only [Int.toNat_natCast, Int.toNat_zero, Int.reduceToNat]
  refine v_ifB_eq hX eX8_project_14 (tgt := 81) rfl (fun c14 => ?_) (fun c14 => ?_)
  · exact e0
  · refine v_iload_n hX eX8_project_17 rfl ?_
    refine v_i2l hX eX8_project_18 ⟨by omega, by omega⟩ ?_
    refine v_lconst (z := 1) hX eX8_project_19 (by decide) ?_
    refine v_ldc2 (z := 8) hX eX8_project_20 k_X8_98 (by decide) ?_
    refine v_fnS hX eX8_project_23 lS_X8_87 ok_MX8_in ⟨rfl, Nat.le_of_ble_eq_true rfl⟩ (Nat.le_of_ble_eq_true rfl) (c_X8_in ⟨by omega, by omega⟩ ⟨by omega, by omega⟩ ⟨by omega, by omega⟩) rfl ?_
    try simp only [Int.toNat_natCast, Int.toNat_zero, Int.reduceToNat]
    refine v_ifB_eq hX eX8_project_26 (tgt := 81) rfl (fun c26 => ?_) (fun c26 => ?_)
    · exact e0
    · refine v_iload_n hX eX8_project_29 rfl ?_
      refine v_i2l hX eX8_project_30 ⟨by omega, by omega⟩ ?_
      refine v_iload_n hX eX8_project_31 rfl ?_
      refine v_i2l hX eX8_project_32 ⟨by omega, by omega⟩ ?_
      refine v_ldc2 (z := 8) hX eX8_project_33 k_X8_98 (by decide) ?_
      refine v_fnS hX eX8_project_36 lS_X8_87 ok_MX8_in ⟨rfl, Nat.le_of_ble_eq_true rfl⟩ (Nat.le_of_ble_eq_true rfl) (c_X8_in ⟨by omega, by omega⟩ ⟨by omega, by omega⟩ ⟨by omega, by omega⟩) rfl ?_
      try simp only [Int.toNat_natCast, Int.toNat_zero, Int.reduceToNat]
      refine v_ifB_eq hX eX8_project_39 (tgt := 81) rfl (fun c39 => ?_) (fun c39 => ?_)
      · exact e0
      · refine v_iload hX eX8_project_42 rfl ?_
        refine v_i2l hX eX8_project_44 ⟨by omega, by omega⟩ ?_
        refine v_lconst (z := 0) hX eX8_project_45 (by decide) ?_
        refine v_ldc2 (z := 255) hX eX8_project_46 k_X8_94 (by decide) ?_
        refine v_fnS hX eX8_project_49 lS_X8_87 ok_MX8_in ⟨rfl, Nat.le_of_ble_eq_true rfl⟩ (Nat.le_of_ble_eq_true rfl) (c_X8_in ⟨by omega, by omega⟩ ⟨by omega, by omega⟩ ⟨by omega, by omega⟩) rfl ?_
        try simp only [Int.toNat_natCast, Int.toNat_zero, Int.reduceToNat]
        refine v_ifB_eq hX eX8_project_52 (tgt := 81) rfl (fun c52 => ?_) (fun c52 => ?_)
        · exact e0
        · refine v_iload_n hX eX8_project_55 rfl ?_
          refine v_iconst hX eX8_project_56 ?_
          refine v_icmp_ne hX eX8_project_57 (tgt := 69) rfl ⟨by omega, by omega⟩ ⟨by omega, by omega⟩ (fun c57 => ?_) (fun c57 => ?_)
          · refine v_aload_n hX eX8_project_69 rfl ?_
            refine v_getI hX eX8_project_70 fi_X8_91 ⟨by decide, rfl⟩ ?_
            refine v_iconst hX eX8_project_73 ?_
            refine v_icmp_ge hX eX8_project_74 (tgt := 81) rfl ⟨by omega, by omega⟩ ⟨by omega, by omega⟩ (fun c74 => ?_) (fun c74 => ?_)
            · exact e0
            · exact absurd ⟨c14, by omega, by omega, by omega, c52, fun _ => by first | exact c66 | (exfalso; omega), by omega⟩ bad
          · refine v_aload_n hX eX8_project_60 rfl ?_
            refine v_iload hX eX8_project_61 rfl ?_
            refine v_fnV hX eX8_project_63 lV_X8_100 ok_MX8_isPupil ⟨by decide, rfl⟩ rfl ⟨rfl, Nat.le_of_ble_eq_true rfl⟩ (Nat.le_of_ble_eq_true rfl) (c_X8_isPupil hn hr) rfl ?_
            try simp only [Int.toNat_natCast, Int.toNat_zero, Int.reduceToNat]
            refine v_ifB_eq hX eX8_project_66 (tgt := 81) rfl (fun c66 => ?_) (fun c66 => ?_)
            · exact e0
            · refine v_aload_n hX eX8_project_69 rfl ?_
              refine v_getI hX eX8_project_70 fi_X8_91 ⟨by decide, rfl⟩ ?_
              refine v_iconst hX eX8_project_73 ?_
              refine v_icmp_ge hX eX8_project_74 (tgt := 81) rfl ⟨by omega, by omega⟩ ⟨by omega, by omega⟩ (fun c74 => ?_) (fun c74 => ?_)
              · exact e0
              · exact absurd ⟨c14, by omega, by omega, by omega, c52, fun _ => by first | exact c66 | (exfalso; omega), by omega⟩ bad
set_option maxHeartbeats 2000000 in
set_option maxRecDepth 20000 in
theorem c_X8_wish {d : Nat} {h g c : Hp} {p q : Nat} (hg : up h 44 0 0 = g) (hn : 0 ≤ g 44 1 ∧ g 44 1 ≤ 8) (hm : 0 ≤ g 44 11 ∧ g 44 11 ≤ 5) (hcm : c 1 4 ≤ 5) (hp : (p : Int) < g 44 1) (hq0 : (q : Int) < g 44 11) (w : WR c g p) (h6 : c (31 + p) q = 6) (h5 : g 47 p < 5) : Fn (d + 2) MX8_wish [mA 44, mI p, mI q] h (some (mI (g 47 p + 1))) (mAdd g p q) := by
  intro Q hq X hX hR
  have rk := w.rk hcm
  have e6 : rkI c p (q : Int) = 6 := by unfold rkI; rw [if_pos (by omega)]; exact h6
  show VW X 0 [some (mA 44), some (mI p), some (mI q)] [] h
  refine v_aload_n hX eX8_wish_0 rfl ?_
  refine v_iconst hX eX8_wish_1 ?_
  refine v_putI hX eX8_wish_2 fi_X8_80 ⟨by decide, rfl⟩ ?_
  rw [hg]
  refine v_aload_n hX eX8_wish_5 rfl ?_
  refine v_iload_n hX eX8_wish_6 rfl ?_
  refine v_fnV hX eX8_wish_7 lV_X8_100 ok_MX8_isPupil ⟨by decide, rfl⟩ rfl ⟨rfl, Nat.le_of_ble_eq_true rfl⟩ (Nat.le_of_ble_eq_true rfl) (c_X8_isPupil hn ⟨by omega, by omega⟩) rfl ?_
  try simp only [Int.toNat_natCast, Int.toNat_zero, Int.reduceToNat]
  refine v_ifB_eq hX eX8_wish_10 (tgt := 30) rfl (fun c10 => False.elim ((c10 ⟨by omega, by omega⟩))) (fun c10 => ?_)
  refine v_aload_n hX eX8_wish_13 rfl ?_
  refine v_iload_n hX eX8_wish_14 rfl ?_
  refine v_fnV hX eX8_wish_15 lV_X8_104 ok_MX8_isProject ⟨by decide, rfl⟩ rfl ⟨rfl, Nat.le_of_ble_eq_true rfl⟩ (Nat.le_of_ble_eq_true rfl) (c_X8_isProject hm ⟨by omega, by omega⟩) rfl ?_
  try simp only [Int.toNat_natCast, Int.toNat_zero, Int.reduceToNat]
  refine v_ifB_eq hX eX8_wish_18 (tgt := 30) rfl (fun c18 => False.elim ((c18 ⟨by omega, by omega⟩))) (fun c18 => ?_)
  refine v_aload_n hX eX8_wish_21 rfl ?_
  refine v_iload_n hX eX8_wish_22 rfl ?_
  refine v_iload_n hX eX8_wish_23 rfl ?_
  refine v_fnV hX eX8_wish_24 lV_X8_107 ok_MX8_hasWish ⟨by decide, rfl⟩ rfl ⟨rfl, Nat.le_of_ble_eq_true rfl⟩ (Nat.le_of_ble_eq_true rfl) (c_X8_hasWish (by omega) rk ⟨by omega, by omega⟩) rfl ?_
  try simp only [Int.toNat_natCast, Int.toNat_zero, Int.reduceToNat]
  refine v_ifB_eq hX eX8_wish_27 (tgt := 32) rfl (fun c27 => ?_) (fun c27 => False.elim ((c27 e6)))
  refine v_aload_n hX eX8_wish_32 rfl ?_
  refine v_iload_n hX eX8_wish_33 rfl ?_
  refine v_iload_n hX eX8_wish_34 rfl ?_
  refine v_fnV0 hX eX8_wish_35 lV_X8_111 ok_MX8_add ⟨by decide, rfl⟩ rfl ⟨rfl, Nat.le_of_ble_eq_true rfl⟩ (Nat.le_of_ble_eq_true rfl) (c_X8_add (by omega) ⟨w.1.1, h5⟩) rfl ?_
  try simp only [Int.toNat_natCast, Int.toNat_zero, Int.reduceToNat]
  refine v_aload_n hX eX8_wish_38 rfl ?_
  refine v_getA hX eX8_wish_39 fi_X8_17 ⟨by decide, rfl⟩ rfl ?_
  refine v_iload_n hX eX8_wish_42 rfl ?_
  refine v_iald hX eX8_wish_43 (by first | exact ⟨by decide, rfl⟩ | exact AR_rk (by omega)) ⟨by omega, by omega⟩ ?_
  try simp only [Int.toNat_natCast, Int.toNat_zero, Int.reduceToNat]
  rw [show mAdd g p q 47 p = g 47 p + 1 from up_same]
  exact v_ireturn hX hR eX8_wish_44 rfl (hq)
set_option maxHeartbeats 2000000 in
set_option maxRecDepth 20000 in
theorem c_X8_wish_N {d : Nat} {h g c : Hp} {p q : Int} (hg : up h 44 0 0 = g) (hn : 0 ≤ g 44 1 ∧ g 44 1 ≤ 8) (hm : 0 ≤ g 44 11 ∧ g 44 11 ≤ 5) (hcm : c 1 4 ≤ 5) (hrp : rng p) (hrq : rng q) (w : ∀ p : Nat, (p : Int) < g 44 1 → WR c g p) (bad : ¬ ((0 ≤ p ∧ p < g 44 1) ∧ (0 ≤ q ∧ q < g 44 11) ∧ c (31 + p.toNat) q.toNat = 6)) : Fn (d + 2) MX8_wish [mA 44, mI p, mI q] h (some (mI (-1))) g := by
  intro Q hq X hX hR
  by_cases hp : 0 ≤ p ∧ p < g 44 1
  · obtain ⟨p, rfl⟩ : ∃ n : Nat, p = n := ⟨p.toNat, by omega⟩
    have rk := (w p hp.2).rk hcm
    rw [Int.toNat_natCast] at bad
    show VW X 0 [some (mA 44), some (mI p), some (mI q)] [] h
    refine v_aload_n hX eX8_wish_0 rfl ?_
    refine v_iconst hX eX8_wish_1 ?_
    refine v_putI hX eX8_wish_2 fi_X8_80 ⟨by decide, rfl⟩ ?_
    rw [hg]
    refine v_aload_n hX eX8_wish_5 rfl ?_
    refine v_iload_n hX eX8_wish_6 rfl ?_
    refine v_fnV hX eX8_wish_7 lV_X8_100 ok_MX8_isPupil ⟨by decide, rfl⟩ rfl ⟨rfl, Nat.le_of_ble_eq_true rfl⟩ (Nat.le_of_ble_eq_true rfl) (c_X8_isPupil hn ⟨by omega, by omega⟩) rfl ?_
    try simp only [Int.toNat_natCast, Int.toNat_zero, Int.reduceToNat]
    refine v_ifB_eq hX eX8_wish_10 (tgt := 30) rfl (fun c10 => False.elim ((c10 ⟨by omega, by omega⟩))) (fun c10 => ?_)
    refine v_aload_n hX eX8_wish_13 rfl ?_
    refine v_iload_n hX eX8_wish_14 rfl ?_
    refine v_fnV hX eX8_wish_15 lV_X8_104 ok_MX8_isProject ⟨by decide, rfl⟩ rfl ⟨rfl, Nat.le_of_ble_eq_true rfl⟩ (Nat.le_of_ble_eq_true rfl) (c_X8_isProject hm ⟨by omega, by omega⟩) rfl ?_
    try simp only [Int.toNat_natCast, Int.toNat_zero, Int.reduceToNat]
    refine v_ifB_eq hX eX8_wish_18 (tgt := 30) rfl (fun c18 => ?_) (fun c18 => ?_)
    · refine v_iconst hX eX8_wish_30 ?_
      exact v_ireturn hX hR eX8_wish_31 rfl (hq)
    · refine v_aload_n hX eX8_wish_21 rfl ?_
      refine v_iload_n hX eX8_wish_22 rfl ?_
      refine v_iload_n hX eX8_wish_23 rfl ?_
      refine v_fnV hX eX8_wish_24 lV_X8_107 ok_MX8_hasWish ⟨by decide, rfl⟩ rfl ⟨rfl, Nat.le_of_ble_eq_true rfl⟩ (Nat.le_of_ble_eq_true rfl) (c_X8_hasWish (by omega) rk ⟨by omega, by omega⟩) rfl ?_
      try simp only [Int.toNat_natCast, Int.toNat_zero, Int.reduceToNat]
      refine v_ifB_eq hX eX8_wish_27 (tgt := 32) rfl (fun c27 => False.elim ((bad ⟨hp, c18, Classical.byContradiction (fun z => c27 (by unfold rkI; rw [if_pos (by omega)]; exact z))⟩))) (fun c27 => ?_)
      refine v_iconst hX eX8_wish_30 ?_
      exact v_ireturn hX hR eX8_wish_31 rfl (hq)
  · show VW X 0 [some (mA 44), some (mI p), some (mI q)] [] h
    refine v_aload_n hX eX8_wish_0 rfl ?_
    refine v_iconst hX eX8_wish_1 ?_
    refine v_putI hX eX8_wish_2 fi_X8_80 ⟨by decide, rfl⟩ ?_
    rw [hg]
    refine v_aload_n hX eX8_wish_5 rfl ?_
    refine v_iload_n hX eX8_wish_6 rfl ?_
    refine v_fnV hX eX8_wish_7 lV_X8_100 ok_MX8_isPupil ⟨by decide, rfl⟩ rfl ⟨rfl, Nat.le_of_ble_eq_true rfl⟩ (Nat.le_of_ble_eq_true rfl) (c_X8_isPupil hn hrp) rfl ?_
    try simp only [Int.toNat_natCast, Int.toNat_zero, Int.reduceToNat]
    refine v_ifB_eq hX eX8_wish_10 (tgt := 30) rfl (fun c10 => ?_) (fun c10 => False.elim ((hp c10)))
    refine v_iconst hX eX8_wish_30 ?_
    exact v_ireturn hX hR eX8_wish_31 rfl (hq)
set_option maxHeartbeats 2000000 in
set_option maxRecDepth 20000 in
theorem c_X8_rank {d : Nat} {h g c : Hp} {p q : Nat} (hg : up h 44 0 0 = g) (hn : 0 ≤ g 44 1 ∧ g 44 1 ≤ 8) (hm : 0 ≤ g 44 11 ∧ g 44 11 ≤ 5) (hcm : c 1 4 ≤ 5) (hp : (p : Int) < g 44 1) (hq0 : (q : Int) < g 44 11) (w : WR c g p) : Fn (d + 2) MX8_rank [mA 44, mI p, mI q] h (some (mI (c (31 + p) q))) g := by
  intro Q hq X hX hR
  have rk := w.rk hcm
  have e6 : rkI c p (q : Int) = c (31 + p) q := by unfold rkI; rw [if_pos (by omega), Int.toNat_natCast]
  show VW X 0 [some (mA 44), some (mI p), some (mI q)] [] h
  refine v_aload_n hX eX8_rank_0 rfl ?_
  refine v_iconst hX eX8_rank_1 ?_
  refine v_putI hX eX8_rank_2 fi_X8_80 ⟨by decide, rfl⟩ ?_
  rw [hg]
  refine v_aload_n hX eX8_rank_5 rfl ?_
  refine v_iload_n hX eX8_rank_6 rfl ?_
  refine v_fnV hX eX8_rank_7 lV_X8_100 ok_MX8_isPupil ⟨by decide, rfl⟩ rfl ⟨rfl, Nat.le_of_ble_eq_true rfl⟩ (Nat.le_of_ble_eq_true rfl) (c_X8_isPupil hn ⟨by omega, by omega⟩) rfl ?_
  try simp only [Int.toNat_natCast, Int.toNat_zero, Int.reduceToNat]
  refine v_ifB_eq hX eX8_rank_10 (tgt := 30) rfl (fun c10 => False.elim ((c10 ⟨by omega, by omega⟩))) (fun c10 => ?_)
  refine v_aload_n hX eX8_rank_13 rfl ?_
  refine v_iload_n hX eX8_rank_14 rfl ?_
  refine v_fnV hX eX8_rank_15 lV_X8_104 ok_MX8_isProject ⟨by decide, rfl⟩ rfl ⟨rfl, Nat.le_of_ble_eq_true rfl⟩ (Nat.le_of_ble_eq_true rfl) (c_X8_isProject hm ⟨by omega, by omega⟩) rfl ?_
  try simp only [Int.toNat_natCast, Int.toNat_zero, Int.reduceToNat]
  refine v_ifB_eq hX eX8_rank_18 (tgt := 30) rfl (fun c18 => False.elim ((c18 ⟨by omega, by omega⟩))) (fun c18 => ?_)
  refine v_aload_n hX eX8_rank_21 rfl ?_
  refine v_iload_n hX eX8_rank_22 rfl ?_
  refine v_iload_n hX eX8_rank_23 rfl ?_
  refine v_fnV hX eX8_rank_24 lV_X8_136 ok_MX8_rankOf ⟨by decide, rfl⟩ rfl ⟨rfl, Nat.le_of_ble_eq_true rfl⟩ (Nat.le_of_ble_eq_true rfl) (c_X8_rankOf (by omega) rk ⟨by omega, by omega⟩) rfl ?_
  try simp only [Int.toNat_natCast, Int.toNat_zero, Int.reduceToNat]
  rw [e6]
  refine v_goto hX eX8_rank_27 (tgt := 31) rfl ?_
  exact v_ireturn hX hR eX8_rank_31 rfl (hq)
set_option maxHeartbeats 2000000 in
set_option maxRecDepth 20000 in
theorem c_X8_rank_N {d : Nat} {h g : Hp} {p q : Int} (hg : up h 44 0 0 = g) (hn : 0 ≤ g 44 1 ∧ g 44 1 ≤ 8) (hm : 0 ≤ g 44 11 ∧ g 44 11 ≤ 5) (hrp : rng p) (hrq : rng q) (bad : ¬ ((0 ≤ p ∧ p < g 44 1) ∧ (0 ≤ q ∧ q < g 44 11))) : Fn (d + 2) MX8_rank [mA 44, mI p, mI q] h (some (mI (-1))) g := by
  intro Q hq X hX hR
  show VW X 0 [some (mA 44), some (mI p), some (mI q)] [] h
  refine v_aload_n hX eX8_rank_0 rfl ?_
  refine v_iconst hX eX8_rank_1 ?_
  refine v_putI hX eX8_rank_2 fi_X8_80 ⟨by decide, rfl⟩ ?_
  rw [hg]
  refine v_aload_n hX eX8_rank_5 rfl ?_
  refine v_iload_n hX eX8_rank_6 rfl ?_
  refine v_fnV hX eX8_rank_7 lV_X8_100 ok_MX8_isPupil ⟨by decide, rfl⟩ rfl ⟨rfl, Nat.le_of_ble_eq_true rfl⟩ (Nat.le_of_ble_eq_true rfl) (c_X8_isPupil hn hrp) rfl ?_
  try simp only [Int.toNat_natCast, Int.toNat_zero, Int.reduceToNat]
  refine v_ifB_eq hX eX8_rank_10 (tgt := 30) rfl (fun c10 => ?_) (fun c10 => ?_)
  · refine v_iconst hX eX8_rank_30 ?_
    exact v_ireturn hX hR eX8_rank_31 rfl (hq)
  · refine v_aload_n hX eX8_rank_13 rfl ?_
    refine v_iload_n hX eX8_rank_14 rfl ?_
    refine v_fnV hX eX8_rank_15 lV_X8_104 ok_MX8_isProject ⟨by decide, rfl⟩ rfl ⟨rfl, Nat.le_of_ble_eq_true rfl⟩ (Nat.le_of_ble_eq_true rfl) (c_X8_isProject hm hrq) rfl ?_
    try simp only [Int.toNat_natCast, Int.toNat_zero, Int.reduceToNat]
    refine v_ifB_eq hX eX8_rank_18 (tgt := 30) rfl (fun c18 => ?_) (fun c18 => False.elim ((bad ⟨c10, c18⟩)))
    refine v_iconst hX eX8_rank_30 ?_
    exact v_ireturn hX hR eX8_rank_31 rfl (hq)
set_option maxHeartbeats 2000000 in
set_option maxRecDepth 20000 in
theorem c_X8_friends {d : Nat} {h g : Hp} {a b : Nat} {x : Int} (hg : up h 44 0 0 = g) (hn : 0 ≤ g 44 1 ∧ g 44 1 ≤ 8) (ha : (a : Int) < g 44 1) (hb : (b : Int) < g 44 1) (hab : a ≠ b) (hx : x = 0 ∨ x = 1) : Fn (d + 3) MX8_friends [mA 44, mI a, mI b, mI x] h (some (mI 1)) (up (up g 51 (8 * a + b) x) 51 (8 * b + a) x) := by
  intro Q hq X hX hR
  have e1 : ((8 : Int) * a + b).toNat = 8 * a + b := by omega
  have e2 : ((8 : Int) * b + a).toNat = 8 * b + a := by omega
  show VW X 0 [some (mA 44), some (mI a), some (mI b), some (mI x)] [] h
  refine v_aload_n hX eX8_friends_0 rfl ?_
  refine v_iconst hX eX8_friends_1 ?_
  refine v_putI hX eX8_friends_2 fi_X8_80 ⟨by decide, rfl⟩ ?_
  rw [hg]
  refine v_aload_n hX eX8_friends_5 rfl ?_
  refine v_iload_n hX eX8_friends_6 rfl ?_
  refine v_iload_n hX eX8_friends_7 rfl ?_
  refine v_fnV hX eX8_friends_8 lV_X8_117 ok_MX8_areTwo ⟨by decide, rfl⟩ rfl ⟨rfl, Nat.le_of_ble_eq_true rfl⟩ (Nat.le_of_ble_eq_true rfl) (c_X8_areTwo hn ⟨by omega, by omega⟩ ⟨by omega, by omega⟩) rfl ?_
  try simp only [Int.toNat_natCast, Int.toNat_zero, Int.reduceToNat]
  refine v_ifB_ne hX eX8_friends_11 (tgt := 16) rfl (fun c11 => ?_) (fun c11 => False.elim ((c11 ⟨⟨by omega, by omega⟩, ⟨by omega, by omega⟩, by omega⟩)))
  refine v_aload_n hX eX8_friends_16 rfl ?_
  refine v_getA hX eX8_friends_17 fi_X8_29 ⟨by decide, rfl⟩ rfl ?_
  refine v_bipush hX eX8_friends_20 (by decide) ?_
  refine v_iload_n hX eX8_friends_22 rfl ?_
  refine v_imul hX eX8_friends_23 ?_
  refine v_iload_n hX eX8_friends_24 rfl ?_
  refine v_iadd hX eX8_friends_25 ?_
  refine v_iload_n hX eX8_friends_26 rfl ?_
  refine v_zast hX eX8_friends_27 (by first | exact ⟨by decide, rfl⟩ | exact AR_rk (by omega)) ⟨by omega, by omega⟩ (by omega) ?_
  try simp only [Int.toNat_natCast, Int.toNat_zero, Int.reduceToNat]
  rw [e1]
  refine v_aload_n hX eX8_friends_28 rfl ?_
  refine v_getA hX eX8_friends_29 fi_X8_29 ⟨by decide, rfl⟩ rfl ?_
  refine v_bipush hX eX8_friends_32 (by decide) ?_
  refine v_iload_n hX eX8_friends_34 rfl ?_
  refine v_imul hX eX8_friends_35 ?_
  refine v_iload_n hX eX8_friends_36 rfl ?_
  refine v_iadd hX eX8_friends_37 ?_
  refine v_iload_n hX eX8_friends_38 rfl ?_
  refine v_zast hX eX8_friends_39 (by first | exact ⟨by decide, rfl⟩ | exact AR_rk (by omega)) ⟨by omega, by omega⟩ (by omega) ?_
  try simp only [Int.toNat_natCast, Int.toNat_zero, Int.reduceToNat]
  rw [e2]
  refine v_iconst hX eX8_friends_40 ?_
  exact v_zreturn hX hR eX8_friends_41 rfl (by omega) (hq)
set_option maxHeartbeats 2000000 in
set_option maxRecDepth 20000 in
theorem c_X8_friends_N {d : Nat} {h g : Hp} {a b x : Int} (hg : up h 44 0 0 = g) (hn : 0 ≤ g 44 1 ∧ g 44 1 ≤ 8) (hra : rng a) (hrb : rng b) (bad : ¬ ((0 ≤ a ∧ a < g 44 1) ∧ (0 ≤ b ∧ b < g 44 1) ∧ a ≠ b)) : Fn (d + 3) MX8_friends [mA 44, mI a, mI b, mI x] h (some (mI 0)) g := by
  intro Q hq X hX hR
  show VW X 0 [some (mA 44), some (mI a), some (mI b), some (mI x)] [] h
  refine v_aload_n hX eX8_friends_0 rfl ?_
  refine v_iconst hX eX8_friends_1 ?_
  refine v_putI hX eX8_friends_2 fi_X8_80 ⟨by decide, rfl⟩ ?_
  rw [hg]
  refine v_aload_n hX eX8_friends_5 rfl ?_
  refine v_iload_n hX eX8_friends_6 rfl ?_
  refine v_iload_n hX eX8_friends_7 rfl ?_
  refine v_fnV hX eX8_friends_8 lV_X8_117 ok_MX8_areTwo ⟨by decide, rfl⟩ rfl ⟨rfl, Nat.le_of_ble_eq_true rfl⟩ (Nat.le_of_ble_eq_true rfl) (c_X8_areTwo hn hra hrb) rfl ?_
  try simp only [Int.toNat_natCast, Int.toNat_zero, Int.reduceToNat]
  refine v_ifB_ne hX eX8_friends_11 (tgt := 16) rfl (fun c11 => False.elim ((bad c11))) (fun c11 => ?_)
  refine v_iconst hX eX8_friends_14 ?_
  exact v_zreturn hX hR eX8_friends_15 rfl (by omega) (hq)
set_option maxHeartbeats 2000000 in
set_option maxRecDepth 20000 in
theorem c_X8_apart {d : Nat} {h g : Hp} {a b : Nat} {x : Int} (hg : up h 44 0 0 = g) (hn : 0 ≤ g 44 1 ∧ g 44 1 ≤ 8) (ha : (a : Int) < g 44 1) (hb : (b : Int) < g 44 1) (hab : a ≠ b) (hx : x = 0 ∨ x = 1) : Fn (d + 3) MX8_apart [mA 44, mI a, mI b, mI x] h (some (mI 1)) (up (up g 52 (8 * a + b) x) 52 (8 * b + a) x) := by
  intro Q hq X hX hR
  have e1 : ((8 : Int) * a + b).toNat = 8 * a + b := by omega
  have e2 : ((8 : Int) * b + a).toNat = 8 * b + a := by omega
  show VW X 0 [some (mA 44), some (mI a), some (mI b), some (mI x)] [] h
  refine v_aload_n hX eX8_apart_0 rfl ?_
  refine v_iconst hX eX8_apart_1 ?_
  refine v_putI hX eX8_apart_2 fi_X8_80 ⟨by decide, rfl⟩ ?_
  rw [hg]
  refine v_aload_n hX eX8_apart_5 rfl ?_
  refine v_iload_n hX eX8_apart_6 rfl ?_
  refine v_iload_n hX eX8_apart_7 rfl ?_
  refine v_fnV hX eX8_apart_8 lV_X8_117 ok_MX8_areTwo ⟨by decide, rfl⟩ rfl ⟨rfl, Nat.le_of_ble_eq_true rfl⟩ (Nat.le_of_ble_eq_true rfl) (c_X8_areTwo hn ⟨by omega, by omega⟩ ⟨by omega, by omega⟩) rfl ?_
  try simp only [Int.toNat_natCast, Int.toNat_zero, Int.reduceToNat]
  refine v_ifB_ne hX eX8_apart_11 (tgt := 16) rfl (fun c11 => ?_) (fun c11 => False.elim ((c11 ⟨⟨by omega, by omega⟩, ⟨by omega, by omega⟩, by omega⟩)))
  refine v_aload_n hX eX8_apart_16 rfl ?_
  refine v_getA hX eX8_apart_17 fi_X8_32 ⟨by decide, rfl⟩ rfl ?_
  refine v_bipush hX eX8_apart_20 (by decide) ?_
  refine v_iload_n hX eX8_apart_22 rfl ?_
  refine v_imul hX eX8_apart_23 ?_
  refine v_iload_n hX eX8_apart_24 rfl ?_
  refine v_iadd hX eX8_apart_25 ?_
  refine v_iload_n hX eX8_apart_26 rfl ?_
  refine v_zast hX eX8_apart_27 (by first | exact ⟨by decide, rfl⟩ | exact AR_rk (by omega)) ⟨by omega, by omega⟩ (by omega) ?_
  try simp only [Int.toNat_natCast, Int.toNat_zero, Int.reduceToNat]
  rw [e1]
  refine v_aload_n hX eX8_apart_28 rfl ?_
  refine v_getA hX eX8_apart_29 fi_X8_32 ⟨by decide, rfl⟩ rfl ?_
  refine v_bipush hX eX8_apart_32 (by decide) ?_
  refine v_iload_n hX eX8_apart_34 rfl ?_
  refine v_imul hX eX8_apart_35 ?_
  refine v_iload_n hX eX8_apart_36 rfl ?_
  refine v_iadd hX eX8_apart_37 ?_
  refine v_iload_n hX eX8_apart_38 rfl ?_
  refine v_zast hX eX8_apart_39 (by first | exact ⟨by decide, rfl⟩ | exact AR_rk (by omega)) ⟨by omega, by omega⟩ (by omega) ?_
  try simp only [Int.toNat_natCast, Int.toNat_zero, Int.reduceToNat]
  rw [e2]
  refine v_iconst hX eX8_apart_40 ?_
  exact v_zreturn hX hR eX8_apart_41 rfl (by omega) (hq)
set_option maxHeartbeats 2000000 in
set_option maxRecDepth 20000 in
theorem c_X8_apart_N {d : Nat} {h g : Hp} {a b x : Int} (hg : up h 44 0 0 = g) (hn : 0 ≤ g 44 1 ∧ g 44 1 ≤ 8) (hra : rng a) (hrb : rng b) (bad : ¬ ((0 ≤ a ∧ a < g 44 1) ∧ (0 ≤ b ∧ b < g 44 1) ∧ a ≠ b)) : Fn (d + 3) MX8_apart [mA 44, mI a, mI b, mI x] h (some (mI 0)) g := by
  intro Q hq X hX hR
  show VW X 0 [some (mA 44), some (mI a), some (mI b), some (mI x)] [] h
  refine v_aload_n hX eX8_apart_0 rfl ?_
  refine v_iconst hX eX8_apart_1 ?_
  refine v_putI hX eX8_apart_2 fi_X8_80 ⟨by decide, rfl⟩ ?_
  rw [hg]
  refine v_aload_n hX eX8_apart_5 rfl ?_
  refine v_iload_n hX eX8_apart_6 rfl ?_
  refine v_iload_n hX eX8_apart_7 rfl ?_
  refine v_fnV hX eX8_apart_8 lV_X8_117 ok_MX8_areTwo ⟨by decide, rfl⟩ rfl ⟨rfl, Nat.le_of_ble_eq_true rfl⟩ (Nat.le_of_ble_eq_true rfl) (c_X8_areTwo hn hra hrb) rfl ?_
  try simp only [Int.toNat_natCast, Int.toNat_zero, Int.reduceToNat]
  refine v_ifB_ne hX eX8_apart_11 (tgt := 16) rfl (fun c11 => False.elim ((bad c11))) (fun c11 => ?_)
  refine v_iconst hX eX8_apart_14 ?_
  exact v_zreturn hX hR eX8_apart_15 rfl (by omega) (hq)
set_option maxHeartbeats 2000000 in
set_option maxRecDepth 20000 in
theorem c_X8_here {d : Nat} {h g : Hp} {a : Nat} {x : Int} (hg : up h 44 0 0 = g) (hn : 0 ≤ g 44 1 ∧ g 44 1 ≤ 8) (ha : (a : Int) < g 44 1) (hx : x = 0 ∨ x = 1) : Fn (d + 2) MX8_here [mA 44, mI a, mI x] h (some (mI 1)) (up g 46 a x) := by
  intro Q hq X hX hR
  show VW X 0 [some (mA 44), some (mI a), some (mI x)] [] h
  refine v_aload_n hX eX8_here_0 rfl ?_
  refine v_iconst hX eX8_here_1 ?_
  refine v_putI hX eX8_here_2 fi_X8_80 ⟨by decide, rfl⟩ ?_
  rw [hg]
  refine v_aload_n hX eX8_here_5 rfl ?_
  refine v_iload_n hX eX8_here_6 rfl ?_
  refine v_fnV hX eX8_here_7 lV_X8_100 ok_MX8_isPupil ⟨by decide, rfl⟩ rfl ⟨rfl, Nat.le_of_ble_eq_true rfl⟩ (Nat.le_of_ble_eq_true rfl) (c_X8_isPupil hn ⟨by omega, by omega⟩) rfl ?_
  try simp only [Int.toNat_natCast, Int.toNat_zero, Int.reduceToNat]
  refine v_ifB_ne hX eX8_here_10 (tgt := 15) rfl (fun c10 => ?_) (fun c10 => False.elim ((c10 ⟨by omega, by omega⟩)))
  refine v_aload_n hX eX8_here_15 rfl ?_
  refine v_getA hX eX8_here_16 fi_X8_13 ⟨by decide, rfl⟩ rfl ?_
  refine v_iload_n hX eX8_here_19 rfl ?_
  refine v_iload_n hX eX8_here_20 rfl ?_
  refine v_zast hX eX8_here_21 (by first | exact ⟨by decide, rfl⟩ | exact AR_rk (by omega)) ⟨by omega, by omega⟩ (by omega) ?_
  try simp only [Int.toNat_natCast, Int.toNat_zero, Int.reduceToNat]
  refine v_iconst hX eX8_here_22 ?_
  exact v_zreturn hX hR eX8_here_23 rfl (by omega) (hq)
set_option maxHeartbeats 2000000 in
set_option maxRecDepth 20000 in
theorem c_X8_here_N {d : Nat} {h g : Hp} {a x : Int} (hg : up h 44 0 0 = g) (hn : 0 ≤ g 44 1 ∧ g 44 1 ≤ 8) (hra : rng a) (bad : ¬ (0 ≤ a ∧ a < g 44 1)) : Fn (d + 2) MX8_here [mA 44, mI a, mI x] h (some (mI 0)) g := by
  intro Q hq X hX hR
  show VW X 0 [some (mA 44), some (mI a), some (mI x)] [] h
  refine v_aload_n hX eX8_here_0 rfl ?_
  refine v_iconst hX eX8_here_1 ?_
  refine v_putI hX eX8_here_2 fi_X8_80 ⟨by decide, rfl⟩ ?_
  rw [hg]
  refine v_aload_n hX eX8_here_5 rfl ?_
  refine v_iload_n hX eX8_here_6 rfl ?_
  refine v_fnV hX eX8_here_7 lV_X8_100 ok_MX8_isPupil ⟨by decide, rfl⟩ rfl ⟨rfl, Nat.le_of_ble_eq_true rfl⟩ (Nat.le_of_ble_eq_true rfl) (c_X8_isPupil hn hra) rfl ?_
  try simp only [Int.toNat_natCast, Int.toNat_zero, Int.reduceToNat]
  refine v_ifB_ne hX eX8_here_10 (tgt := 15) rfl (fun c10 => False.elim ((bad c10))) (fun c10 => ?_)
  refine v_iconst hX eX8_here_13 ?_
  exact v_zreturn hX hR eX8_here_14 rfl (by omega) (hq)
set_option maxHeartbeats 2000000 in
set_option maxRecDepth 20000 in
theorem c_X8_offered {d : Nat} {h g : Hp} {a : Nat} {x : Int} (hg : up h 44 0 0 = g) (hm : 0 ≤ g 44 11 ∧ g 44 11 ≤ 5) (ha : (a : Int) < g 44 11) (hx : x = 0 ∨ x = 1) : Fn (d + 2) MX8_offered [mA 44, mI a, mI x] h (some (mI 1)) (up g 59 a x) := by
  intro Q hq X hX hR
  show VW X 0 [some (mA 44), some (mI a), some (mI x)] [] h
  refine v_aload_n hX eX8_offered_0 rfl ?_
  refine v_iconst hX eX8_offered_1 ?_
  refine v_putI hX eX8_offered_2 fi_X8_80 ⟨by decide, rfl⟩ ?_
  rw [hg]
  refine v_aload_n hX eX8_offered_5 rfl ?_
  refine v_iload_n hX eX8_offered_6 rfl ?_
  refine v_fnV hX eX8_offered_7 lV_X8_104 ok_MX8_isProject ⟨by decide, rfl⟩ rfl ⟨rfl, Nat.le_of_ble_eq_true rfl⟩ (Nat.le_of_ble_eq_true rfl) (c_X8_isProject hm ⟨by omega, by omega⟩) rfl ?_
  try simp only [Int.toNat_natCast, Int.toNat_zero, Int.reduceToNat]
  refine v_ifB_ne hX eX8_offered_10 (tgt := 15) rfl (fun c10 => ?_) (fun c10 => False.elim ((c10 ⟨by omega, by omega⟩)))
  refine v_aload_n hX eX8_offered_15 rfl ?_
  refine v_getA hX eX8_offered_16 fi_X8_53 ⟨by decide, rfl⟩ rfl ?_
  refine v_iload_n hX eX8_offered_19 rfl ?_
  refine v_iload_n hX eX8_offered_20 rfl ?_
  refine v_zast hX eX8_offered_21 (by first | exact ⟨by decide, rfl⟩ | exact AR_rk (by omega)) ⟨by omega, by omega⟩ (by omega) ?_
  try simp only [Int.toNat_natCast, Int.toNat_zero, Int.reduceToNat]
  refine v_iconst hX eX8_offered_22 ?_
  exact v_zreturn hX hR eX8_offered_23 rfl (by omega) (hq)
set_option maxHeartbeats 2000000 in
set_option maxRecDepth 20000 in
theorem c_X8_offered_N {d : Nat} {h g : Hp} {a x : Int} (hg : up h 44 0 0 = g) (hm : 0 ≤ g 44 11 ∧ g 44 11 ≤ 5) (hra : rng a) (bad : ¬ (0 ≤ a ∧ a < g 44 11)) : Fn (d + 2) MX8_offered [mA 44, mI a, mI x] h (some (mI 0)) g := by
  intro Q hq X hX hR
  show VW X 0 [some (mA 44), some (mI a), some (mI x)] [] h
  refine v_aload_n hX eX8_offered_0 rfl ?_
  refine v_iconst hX eX8_offered_1 ?_
  refine v_putI hX eX8_offered_2 fi_X8_80 ⟨by decide, rfl⟩ ?_
  rw [hg]
  refine v_aload_n hX eX8_offered_5 rfl ?_
  refine v_iload_n hX eX8_offered_6 rfl ?_
  refine v_fnV hX eX8_offered_7 lV_X8_104 ok_MX8_isProject ⟨by decide, rfl⟩ rfl ⟨rfl, Nat.le_of_ble_eq_true rfl⟩ (Nat.le_of_ble_eq_true rfl) (c_X8_isProject hm hra) rfl ?_
  try simp only [Int.toNat_natCast, Int.toNat_zero, Int.reduceToNat]
  refine v_ifB_ne hX eX8_offered_10 (tgt := 15) rfl (fun c10 => False.elim ((bad c10))) (fun c10 => ?_)
  refine v_iconst hX eX8_offered_13 ?_
  exact v_zreturn hX hR eX8_offered_14 rfl (by omega) (hq)
set_option maxHeartbeats 2000000 in
set_option maxRecDepth 20000 in
theorem c_X8_put {d : Nat} {h g : Hp} {p : Nat} {q : Int} (hg : up h 44 0 0 = g) (hn : 0 ≤ g 44 1 ∧ g 44 1 ≤ 8) (hm : 0 ≤ g 44 11 ∧ g 44 11 ≤ 5) (hp : (p : Int) < g 44 1) (hrq : rng q) (hq0 : q = -1 ∨ (0 ≤ q ∧ q < g 44 11)) : Fn (d + 2) MX8_put [mA 44, mI p, mI q] h (some (mI 1)) (up g 50 p q) := by
  intro Q hq X hX hR
  show VW X 0 [some (mA 44), some (mI p), some (mI q)] [] h
  refine v_aload_n hX eX8_put_0 rfl ?_
  refine v_iconst hX eX8_put_1 ?_
  refine v_putI hX eX8_put_2 fi_X8_80 ⟨by decide, rfl⟩ ?_
  rw [hg]
  refine v_aload_n hX eX8_put_5 rfl ?_
  refine v_iload_n hX eX8_put_6 rfl ?_
  refine v_fnV hX eX8_put_7 lV_X8_100 ok_MX8_isPupil ⟨by decide, rfl⟩ rfl ⟨rfl, Nat.le_of_ble_eq_true rfl⟩ (Nat.le_of_ble_eq_true rfl) (c_X8_isPupil hn ⟨by omega, by omega⟩) rfl ?_
  try simp only [Int.toNat_natCast, Int.toNat_zero, Int.reduceToNat]
  refine v_ifB_eq hX eX8_put_10 (tgt := 26) rfl (fun c10 => False.elim ((c10 ⟨by omega, by omega⟩))) (fun c10 => ?_)
  refine v_iload_n hX eX8_put_13 rfl ?_
  refine v_iconst hX eX8_put_14 ?_
  refine v_icmp_eq hX eX8_put_15 (tgt := 28) rfl ⟨by omega, by omega⟩ ⟨by omega, by omega⟩ (fun c15 => ?_) (fun c15 => ?_)
  · refine v_aload_n hX eX8_put_28 rfl ?_
    refine v_getA hX eX8_put_29 fi_X8_26 ⟨by decide, rfl⟩ rfl ?_
    refine v_iload_n hX eX8_put_32 rfl ?_
    refine v_iload_n hX eX8_put_33 rfl ?_
    refine v_iast hX eX8_put_34 (by first | exact ⟨by decide, rfl⟩ | exact AR_rk (by omega)) ⟨by omega, by omega⟩ ?_
    try simp only [Int.toNat_natCast, Int.toNat_zero, Int.reduceToNat]
    refine v_iconst hX eX8_put_35 ?_
    exact v_zreturn hX hR eX8_put_36 rfl (by omega) (hq)
  · refine v_aload_n hX eX8_put_18 rfl ?_
    refine v_iload_n hX eX8_put_19 rfl ?_
    refine v_fnV hX eX8_put_20 lV_X8_104 ok_MX8_isProject ⟨by decide, rfl⟩ rfl ⟨rfl, Nat.le_of_ble_eq_true rfl⟩ (Nat.le_of_ble_eq_true rfl) (c_X8_isProject hm hrq) rfl ?_
    try simp only [Int.toNat_natCast, Int.toNat_zero, Int.reduceToNat]
    refine v_ifB_ne hX eX8_put_23 (tgt := 28) rfl (fun c23 => ?_) (fun c23 => False.elim ((c23 (hq0.resolve_left c15))))
    refine v_aload_n hX eX8_put_28 rfl ?_
    refine v_getA hX eX8_put_29 fi_X8_26 ⟨by decide, rfl⟩ rfl ?_
    refine v_iload_n hX eX8_put_32 rfl ?_
    refine v_iload_n hX eX8_put_33 rfl ?_
    refine v_iast hX eX8_put_34 (by first | exact ⟨by decide, rfl⟩ | exact AR_rk (by omega)) ⟨by omega, by omega⟩ ?_
    try simp only [Int.toNat_natCast, Int.toNat_zero, Int.reduceToNat]
    refine v_iconst hX eX8_put_35 ?_
    exact v_zreturn hX hR eX8_put_36 rfl (by omega) (hq)
set_option maxHeartbeats 2000000 in
set_option maxRecDepth 20000 in
theorem c_X8_put_N {d : Nat} {h g : Hp} {p q : Int} (hg : up h 44 0 0 = g) (hn : 0 ≤ g 44 1 ∧ g 44 1 ≤ 8) (hm : 0 ≤ g 44 11 ∧ g 44 11 ≤ 5) (hrp : rng p) (hrq : rng q) (bad : ¬ ((0 ≤ p ∧ p < g 44 1) ∧ (q = -1 ∨ (0 ≤ q ∧ q < g 44 11)))) : Fn (d + 2) MX8_put [mA 44, mI p, mI q] h (some (mI 0)) g := by
  intro Q hq X hX hR
  show VW X 0 [some (mA 44), some (mI p), some (mI q)] [] h
  refine v_aload_n hX eX8_put_0 rfl ?_
  refine v_iconst hX eX8_put_1 ?_
  refine v_putI hX eX8_put_2 fi_X8_80 ⟨by decide, rfl⟩ ?_
  rw [hg]
  refine v_aload_n hX eX8_put_5 rfl ?_
  refine v_iload_n hX eX8_put_6 rfl ?_
  refine v_fnV hX eX8_put_7 lV_X8_100 ok_MX8_isPupil ⟨by decide, rfl⟩ rfl ⟨rfl, Nat.le_of_ble_eq_true rfl⟩ (Nat.le_of_ble_eq_true rfl) (c_X8_isPupil hn hrp) rfl ?_
  try simp only [Int.toNat_natCast, Int.toNat_zero, Int.reduceToNat]
  refine v_ifB_eq hX eX8_put_10 (tgt := 26) rfl (fun c10 => ?_) (fun c10 => ?_)
  · refine v_iconst hX eX8_put_26 ?_
    exact v_zreturn hX hR eX8_put_27 rfl (by omega) (hq)
  · refine v_iload_n hX eX8_put_13 rfl ?_
    refine v_iconst hX eX8_put_14 ?_
    refine v_icmp_eq hX eX8_put_15 (tgt := 28) rfl ⟨by omega, by omega⟩ ⟨by omega, by omega⟩ (fun c15 => False.elim ((bad ⟨c10, Or.inl c15⟩))) (fun c15 => ?_)
    refine v_aload_n hX eX8_put_18 rfl ?_
    refine v_iload_n hX eX8_put_19 rfl ?_
    refine v_fnV hX eX8_put_20 lV_X8_104 ok_MX8_isProject ⟨by decide, rfl⟩ rfl ⟨rfl, Nat.le_of_ble_eq_true rfl⟩ (Nat.le_of_ble_eq_true rfl) (c_X8_isProject hm hrq) rfl ?_
    try simp only [Int.toNat_natCast, Int.toNat_zero, Int.reduceToNat]
    refine v_ifB_ne hX eX8_put_23 (tgt := 28) rfl (fun c23 => False.elim ((bad ⟨c10, Or.inr c23⟩))) (fun c23 => ?_)
    refine v_iconst hX eX8_put_26 ?_
    exact v_zreturn hX hR eX8_put_27 rfl (by omega) (hq)
set_option maxHeartbeats 2000000 in
set_option maxRecDepth 20000 in
theorem c_X8_year {d : Nat} {h g : Hp} {y p : Nat} (hg : up h 44 0 0 = g) (hn : 0 ≤ g 44 1 ∧ g 44 1 ≤ 8) (hy : 0 ≤ g 44 31 ∧ g 44 31 ≤ 60) (hyy : (y : Int) < g 44 31) (hp : (p : Int) < g 44 1) (h66 : rng (g 66 y)) : Fn (d + 2) MX8_year [mA 44, mI y, mI p] h (some (mI (if (p : Int) < g 66 y then g 65 (8 * y + p) else 0))) g := by
  intro Q hq X hX hR
  have e1 : ((8 : Int) * y + p).toNat = 8 * y + p := by omega
  show VW X 0 [some (mA 44), some (mI y), some (mI p)] [] h
  refine v_aload_n hX eX8_year_0 rfl ?_
  refine v_iconst hX eX8_year_1 ?_
  refine v_putI hX eX8_year_2 fi_X8_80 ⟨by decide, rfl⟩ ?_
  rw [hg]
  refine v_iload_n hX eX8_year_5 rfl ?_
  refine v_i2l hX eX8_year_6 ⟨by omega, by omega⟩ ?_
  refine v_lconst (z := 0) hX eX8_year_7 (by decide) ?_
  refine v_aload_n hX eX8_year_8 rfl ?_
  refine v_getI hX eX8_year_9 fi_X8_125 ⟨by decide, rfl⟩ ?_
  refine v_iconst hX eX8_year_12 ?_
  refine v_isub hX eX8_year_13 ?_
  refine v_i2l hX eX8_year_14 ⟨by omega, by omega⟩ ?_
  refine v_fnS hX eX8_year_15 lS_X8_87 ok_MX8_in ⟨rfl, Nat.le_of_ble_eq_true rfl⟩ (Nat.le_of_ble_eq_true rfl) (c_X8_in ⟨by omega, by omega⟩ ⟨by omega, by omega⟩ ⟨by omega, by omega⟩) rfl ?_
  try simp only [Int.toNat_natCast, Int.toNat_zero, Int.reduceToNat]
  refine v_ifB_eq hX eX8_year_18 (tgt := 29) rfl (fun c18 => False.elim ((c18 ⟨by omega, by omega⟩))) (fun c18 => ?_)
  refine v_aload_n hX eX8_year_21 rfl ?_
  refine v_iload_n hX eX8_year_22 rfl ?_
  refine v_fnV hX eX8_year_23 lV_X8_100 ok_MX8_isPupil ⟨by decide, rfl⟩ rfl ⟨rfl, Nat.le_of_ble_eq_true rfl⟩ (Nat.le_of_ble_eq_true rfl) (c_X8_isPupil hn ⟨by omega, by omega⟩) rfl ?_
  try simp only [Int.toNat_natCast, Int.toNat_zero, Int.reduceToNat]
  refine v_ifB_ne hX eX8_year_26 (tgt := 31) rfl (fun c26 => ?_) (fun c26 => False.elim ((c26 ⟨by omega, by omega⟩)))
  refine v_iload_n hX eX8_year_31 rfl ?_
  refine v_aload_n hX eX8_year_32 rfl ?_
  refine v_getA hX eX8_year_33 fi_X8_74 ⟨by decide, rfl⟩ rfl ?_
  refine v_iload_n hX eX8_year_36 rfl ?_
  refine v_iald hX eX8_year_37 (by first | exact ⟨by decide, rfl⟩ | exact AR_rk (by omega)) ⟨by omega, by omega⟩ ?_
  try simp only [Int.toNat_natCast, Int.toNat_zero, Int.reduceToNat]
  refine v_icmp_ge hX eX8_year_38 (tgt := 55) rfl ⟨by omega, by omega⟩ ⟨by omega, by omega⟩ (fun c38 => ?_) (fun c38 => ?_)
  · refine v_iconst hX eX8_year_55 ?_
    exact v_ireturn hX hR eX8_year_56 rfl (by rw [if_neg (by omega)] at hq; exact hq)
  · refine v_aload_n hX eX8_year_41 rfl ?_
    refine v_getA hX eX8_year_42 fi_X8_71 ⟨by decide, rfl⟩ rfl ?_
    refine v_bipush hX eX8_year_45 (by decide) ?_
    refine v_iload_n hX eX8_year_47 rfl ?_
    refine v_imul hX eX8_year_48 ?_
    refine v_iload_n hX eX8_year_49 rfl ?_
    refine v_iadd hX eX8_year_50 ?_
    refine v_iald hX eX8_year_51 (by first | exact ⟨by decide, rfl⟩ | exact AR_rk (by omega)) ⟨by omega, by omega⟩ ?_
    try simp only [Int.toNat_natCast, Int.toNat_zero, Int.reduceToNat]
    rw [e1]
    refine v_goto hX eX8_year_52 (tgt := 56) rfl ?_
    exact v_ireturn hX hR eX8_year_56 rfl (by rw [if_pos (by omega)] at hq; exact hq)
set_option maxHeartbeats 2000000 in
set_option maxRecDepth 20000 in
theorem c_X8_year_N {d : Nat} {h g : Hp} {y p : Int} (hg : up h 44 0 0 = g) (hn : 0 ≤ g 44 1 ∧ g 44 1 ≤ 8) (hy : 0 ≤ g 44 31 ∧ g 44 31 ≤ 60) (hr : rng y) (hrp : rng p) (bad : ¬ ((0 ≤ y ∧ y < g 44 31) ∧ (0 ≤ p ∧ p < g 44 1))) : Fn (d + 2) MX8_year [mA 44, mI y, mI p] h (some (mI (-1))) g := by
  intro Q hq X hX hR
  show VW X 0 [some (mA 44), some (mI y), some (mI p)] [] h
  refine v_aload_n hX eX8_year_0 rfl ?_
  refine v_iconst hX eX8_year_1 ?_
  refine v_putI hX eX8_year_2 fi_X8_80 ⟨by decide, rfl⟩ ?_
  rw [hg]
  refine v_iload_n hX eX8_year_5 rfl ?_
  refine v_i2l hX eX8_year_6 ⟨by omega, by omega⟩ ?_
  refine v_lconst (z := 0) hX eX8_year_7 (by decide) ?_
  refine v_aload_n hX eX8_year_8 rfl ?_
  refine v_getI hX eX8_year_9 fi_X8_125 ⟨by decide, rfl⟩ ?_
  refine v_iconst hX eX8_year_12 ?_
  refine v_isub hX eX8_year_13 ?_
  refine v_i2l hX eX8_year_14 ⟨by omega, by omega⟩ ?_
  refine v_fnS hX eX8_year_15 lS_X8_87 ok_MX8_in ⟨rfl, Nat.le_of_ble_eq_true rfl⟩ (Nat.le_of_ble_eq_true rfl) (c_X8_in ⟨by omega, by omega⟩ ⟨by omega, by omega⟩ ⟨by omega, by omega⟩) rfl ?_
  try simp only [Int.toNat_natCast, Int.toNat_zero, Int.reduceToNat]
  refine v_ifB_eq hX eX8_year_18 (tgt := 29) rfl (fun c18 => ?_) (fun c18 => ?_)
  · refine v_iconst hX eX8_year_29 ?_
    exact v_ireturn hX hR eX8_year_30 rfl (hq)
  · refine v_aload_n hX eX8_year_21 rfl ?_
    refine v_iload_n hX eX8_year_22 rfl ?_
    refine v_fnV hX eX8_year_23 lV_X8_100 ok_MX8_isPupil ⟨by decide, rfl⟩ rfl ⟨rfl, Nat.le_of_ble_eq_true rfl⟩ (Nat.le_of_ble_eq_true rfl) (c_X8_isPupil hn hrp) rfl ?_
    try simp only [Int.toNat_natCast, Int.toNat_zero, Int.reduceToNat]
    refine v_ifB_ne hX eX8_year_26 (tgt := 31) rfl (fun c26 => False.elim ((bad ⟨⟨c18.1, by have := c18.2; omega⟩, c26⟩))) (fun c26 => ?_)
    refine v_iconst hX eX8_year_29 ?_
    exact v_ireturn hX hR eX8_year_30 rfl (hq)
