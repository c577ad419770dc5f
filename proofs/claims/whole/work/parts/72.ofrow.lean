/-! of, row: the model's side, and the class's where nothing is thrown -/
noncomputable def ofV (h : Hp) (p : Nat) (w : Int) : Int := if w = 0 then h (23 + p) 1 else if w = 1 then h (23 + p) 6 else if w = 2 then h (23 + p) 2 else if w = 3 then h (23 + p) 3 else if w = 4 then h 4 p else if w = 5 then (if h 4 p = -1 then 0 else rkI h p (h 4 p)) else plc h p
set_option maxHeartbeats 2000000 in
set_option maxRecDepth 20000 in
theorem c_X7_of {d : Nat} {h : Hp} {p w : Int} (hI : RI h) (hL : PLI h) (hp : inN h p) (hw : 0 ≤ w ∧ w ≤ 6) : Fn (d + 3) MX7_of [mA 0, mI p, mI w] h (some (mI (ofV h p.toNat w))) h := by
  intro Q hq X hX hR
  have hp8 := hp.lt hI
  have hn := hI.n
  have h4 := hL p.toNat (by omega)
  have u := hI.pu (p := p.toNat) (by omega)
  have u6 := u.2.2.2.2.2.1
  have rr := rkI_rng hI (p := p.toNat) (by omega) (h 4 p.toNat)
  show VW X 0 [some (mA 0), some (mI p), some (mI w), none] [] h
  rcases (show w = 0 ∨ w = 1 ∨ w = 2 ∨ w = 3 ∨ w = 4 ∨ w = 5 ∨ w = 6 by omega) with rfl | rfl | rfl | rfl | rfl | rfl | rfl
  · refine v_aload_n hX eX7_of_0 rfl ?_
    refine v_getA hX eX7_of_1 fi_X7_10 ⟨by decide, rfl⟩ rfl ?_
    refine v_iload_n hX eX7_of_4 rfl ?_
    refine v_fnV hX eX7_of_5 lV_X7_55 ok_MX4_pupilOf ⟨by decide, rfl⟩ rfl ⟨rfl, Nat.le_of_ble_eq_true rfl⟩ (Nat.le_of_ble_eq_true rfl) (c_X4_pupilOf hI hp) rfl ?_
    try simp only [Int.toNat_natCast, Int.toNat_zero, Int.reduceToNat]
    refine v_astore_n hX eX7_of_8 rfl rfl ?_
    refine v_aload_n hX eX7_of_9 rfl ?_
    refine v_ifnonnull hX eX7_of_10 (tgt := 21) rfl ?_
    refine v_iload_n hX eX7_of_21 rfl ?_
    refine v_tsw hX eX7_of_22 (tgt := 64) (by decide) (by decide) ?_
    refine v_aload_n hX eX7_of_64 rfl ?_
    refine v_getI hX eX7_of_65 fi_X7_128 (OB_pu (by omega)) ?_
    exact v_ireturn hX hR eX7_of_68 rfl (hq)
  · rcases u6 with z | z
    · have e : ofV h p.toNat 1 = 0 := by unfold ofV; rw [if_neg (by decide), if_pos rfl]; exact z
      rw [e] at hq
      refine v_aload_n hX eX7_of_0 rfl ?_
      refine v_getA hX eX7_of_1 fi_X7_10 ⟨by decide, rfl⟩ rfl ?_
      refine v_iload_n hX eX7_of_4 rfl ?_
      refine v_fnV hX eX7_of_5 lV_X7_55 ok_MX4_pupilOf ⟨by decide, rfl⟩ rfl ⟨rfl, Nat.le_of_ble_eq_true rfl⟩ (Nat.le_of_ble_eq_true rfl) (c_X4_pupilOf hI hp) rfl ?_
      try simp only [Int.toNat_natCast, Int.toNat_zero, Int.reduceToNat]
      refine v_astore_n hX eX7_of_8 rfl rfl ?_
      refine v_aload_n hX eX7_of_9 rfl ?_
      refine v_ifnonnull hX eX7_of_10 (tgt := 21) rfl ?_
      refine v_iload_n hX eX7_of_21 rfl ?_
      refine v_tsw hX eX7_of_22 (tgt := 69) (by decide) (by decide) ?_
      refine v_aload_n hX eX7_of_69 rfl ?_
      refine v_getZ hX eX7_of_70 fi_X7_84 (OB_pu (by omega)) ?_
      rw [z]
      refine v_if_eq hX eX7_of_73 (tgt := 80) rfl ⟨by omega, by omega⟩ (fun c73 => ?_) (fun c73 => False.elim ((by omega)))
      refine v_iconst hX eX7_of_80 ?_
      exact v_ireturn hX hR eX7_of_81 rfl (hq)
    · have e : ofV h p.toNat 1 = 1 := by unfold ofV; rw [if_neg (by decide), if_pos rfl]; exact z
      rw [e] at hq
      refine v_aload_n hX eX7_of_0 rfl ?_
      refine v_getA hX eX7_of_1 fi_X7_10 ⟨by decide, rfl⟩ rfl ?_
      refine v_iload_n hX eX7_of_4 rfl ?_
      refine v_fnV hX eX7_of_5 lV_X7_55 ok_MX4_pupilOf ⟨by decide, rfl⟩ rfl ⟨rfl, Nat.le_of_ble_eq_true rfl⟩ (Nat.le_of_ble_eq_true rfl) (c_X4_pupilOf hI hp) rfl ?_
      try simp only [Int.toNat_natCast, Int.toNat_zero, Int.reduceToNat]
      refine v_astore_n hX eX7_of_8 rfl rfl ?_
      refine v_aload_n hX eX7_of_9 rfl ?_
      refine v_ifnonnull hX eX7_of_10 (tgt := 21) rfl ?_
      refine v_iload_n hX eX7_of_21 rfl ?_
      refine v_tsw hX eX7_of_22 (tgt := 69) (by decide) (by decide) ?_
      refine v_aload_n hX eX7_of_69 rfl ?_
      refine v_getZ hX eX7_of_70 fi_X7_84 (OB_pu (by omega)) ?_
      rw [z]
      refine v_if_eq hX eX7_of_73 (tgt := 80) rfl ⟨by omega, by omega⟩ (fun c73 => False.elim ((by omega))) (fun c73 => ?_)
      refine v_iconst hX eX7_of_76 ?_
      refine v_goto hX eX7_of_77 (tgt := 81) rfl ?_
      exact v_ireturn hX hR eX7_of_81 rfl (hq)
  · refine v_aload_n hX eX7_of_0 rfl ?_
    refine v_getA hX eX7_of_1 fi_X7_10 ⟨by decide, rfl⟩ rfl ?_
    refine v_iload_n hX eX7_of_4 rfl ?_
    refine v_fnV hX eX7_of_5 lV_X7_55 ok_MX4_pupilOf ⟨by decide, rfl⟩ rfl ⟨rfl, Nat.le_of_ble_eq_true rfl⟩ (Nat.le_of_ble_eq_true rfl) (c_X4_pupilOf hI hp) rfl ?_
    try simp only [Int.toNat_natCast, Int.toNat_zero, Int.reduceToNat]
    refine v_astore_n hX eX7_of_8 rfl rfl ?_
    refine v_aload_n hX eX7_of_9 rfl ?_
    refine v_ifnonnull hX eX7_of_10 (tgt := 21) rfl ?_
    refine v_iload_n hX eX7_of_21 rfl ?_
    refine v_tsw hX eX7_of_22 (tgt := 82) (by decide) (by decide) ?_
    refine v_aload_n hX eX7_of_82 rfl ?_
    refine v_getI hX eX7_of_83 fi_X7_67 (OB_pu (by omega)) ?_
    exact v_ireturn hX hR eX7_of_86 rfl (hq)
  · refine v_aload_n hX eX7_of_0 rfl ?_
    refine v_getA hX eX7_of_1 fi_X7_10 ⟨by decide, rfl⟩ rfl ?_
    refine v_iload_n hX eX7_of_4 rfl ?_
    refine v_fnV hX eX7_of_5 lV_X7_55 ok_MX4_pupilOf ⟨by decide, rfl⟩ rfl ⟨rfl, Nat.le_of_ble_eq_true rfl⟩ (Nat.le_of_ble_eq_true rfl) (c_X4_pupilOf hI hp) rfl ?_
    try simp only [Int.toNat_natCast, Int.toNat_zero, Int.reduceToNat]
    refine v_astore_n hX eX7_of_8 rfl rfl ?_
    refine v_aload_n hX eX7_of_9 rfl ?_
    refine v_ifnonnull hX eX7_of_10 (tgt := 21) rfl ?_
    refine v_iload_n hX eX7_of_21 rfl ?_
    refine v_tsw hX eX7_of_22 (tgt := 87) (by decide) (by decide) ?_
    refine v_aload_n hX eX7_of_87 rfl ?_
    refine v_getI hX eX7_of_88 fi_X7_131 (OB_pu (by omega)) ?_
    exact v_ireturn hX hR eX7_of_91 rfl (hq)
  · refine v_aload_n hX eX7_of_0 rfl ?_
    refine v_getA hX eX7_of_1 fi_X7_10 ⟨by decide, rfl⟩ rfl ?_
    refine v_iload_n hX eX7_of_4 rfl ?_
    refine v_fnV hX eX7_of_5 lV_X7_55 ok_MX4_pupilOf ⟨by decide, rfl⟩ rfl ⟨rfl, Nat.le_of_ble_eq_true rfl⟩ (Nat.le_of_ble_eq_true rfl) (c_X4_pupilOf hI hp) rfl ?_
    try simp only [Int.toNat_natCast, Int.toNat_zero, Int.reduceToNat]
    refine v_astore_n hX eX7_of_8 rfl rfl ?_
    refine v_aload_n hX eX7_of_9 rfl ?_
    refine v_ifnonnull hX eX7_of_10 (tgt := 21) rfl ?_
    refine v_iload_n hX eX7_of_21 rfl ?_
    refine v_tsw hX eX7_of_22 (tgt := 92) (by decide) (by decide) ?_
    refine v_aload_n hX eX7_of_92 rfl ?_
    refine v_getA hX eX7_of_93 fi_X7_30 ⟨by decide, rfl⟩ rfl ?_
    refine v_iload_n hX eX7_of_96 rfl ?_
    refine v_iald hX eX7_of_97 (by first | exact ⟨by decide, rfl⟩ | exact hk | exact hk2 | exact AR_rk (by omega)) ⟨by omega, by omega⟩ ?_
    try simp only [Int.toNat_natCast, Int.toNat_zero, Int.reduceToNat]
    exact v_ireturn hX hR eX7_of_98 rfl (hq)
  · by_cases z : h 4 p.toNat = -1
    · have e : ofV h p.toNat 5 = 0 := by unfold ofV; rw [if_neg (by decide), if_neg (by decide), if_neg (by decide), if_neg (by decide), if_neg (by decide), if_pos rfl, if_pos z]
      rw [e] at hq
      refine v_aload_n hX eX7_of_0 rfl ?_
      refine v_getA hX eX7_of_1 fi_X7_10 ⟨by decide, rfl⟩ rfl ?_
      refine v_iload_n hX eX7_of_4 rfl ?_
      refine v_fnV hX eX7_of_5 lV_X7_55 ok_MX4_pupilOf ⟨by decide, rfl⟩ rfl ⟨rfl, Nat.le_of_ble_eq_true rfl⟩ (Nat.le_of_ble_eq_true rfl) (c_X4_pupilOf hI hp) rfl ?_
      try simp only [Int.toNat_natCast, Int.toNat_zero, Int.reduceToNat]
      refine v_astore_n hX eX7_of_8 rfl rfl ?_
      refine v_aload_n hX eX7_of_9 rfl ?_
      refine v_ifnonnull hX eX7_of_10 (tgt := 21) rfl ?_
      refine v_iload_n hX eX7_of_21 rfl ?_
      refine v_tsw hX eX7_of_22 (tgt := 99) (by decide) (by decide) ?_
      refine v_aload_n hX eX7_of_99 rfl ?_
      refine v_getA hX eX7_of_100 fi_X7_30 ⟨by decide, rfl⟩ rfl ?_
      refine v_iload_n hX eX7_of_103 rfl ?_
      refine v_iald hX eX7_of_104 (by first | exact ⟨by decide, rfl⟩ | exact hk | exact hk2 | exact AR_rk (by omega)) ⟨by omega, by omega⟩ ?_
      try simp only [Int.toNat_natCast, Int.toNat_zero, Int.reduceToNat]
      refine v_iconst hX eX7_of_105 ?_
      refine v_icmp_ne hX eX7_of_106 (tgt := 113) rfl ⟨by omega, by omega⟩ ⟨by omega, by omega⟩ (fun c106 => False.elim ((c106 z))) (fun c106 => ?_)
      refine v_iconst hX eX7_of_109 ?_
      refine v_goto hX eX7_of_110 (tgt := 123) rfl ?_
      exact v_ireturn hX hR eX7_of_123 rfl (hq)
    · have e : ofV h p.toNat 5 = rkI h p.toNat (h 4 p.toNat) := by unfold ofV; rw [if_neg (by decide), if_neg (by decide), if_neg (by decide), if_neg (by decide), if_neg (by decide), if_pos rfl, if_neg z]
      rw [e] at hq
      refine v_aload_n hX eX7_of_0 rfl ?_
      refine v_getA hX eX7_of_1 fi_X7_10 ⟨by decide, rfl⟩ rfl ?_
      refine v_iload_n hX eX7_of_4 rfl ?_
      refine v_fnV hX eX7_of_5 lV_X7_55 ok_MX4_pupilOf ⟨by decide, rfl⟩ rfl ⟨rfl, Nat.le_of_ble_eq_true rfl⟩ (Nat.le_of_ble_eq_true rfl) (c_X4_pupilOf hI hp) rfl ?_
      try simp only [Int.toNat_natCast, Int.toNat_zero, Int.reduceToNat]
      refine v_astore_n hX eX7_of_8 rfl rfl ?_
      refine v_aload_n hX eX7_of_9 rfl ?_
      refine v_ifnonnull hX eX7_of_10 (tgt := 21) rfl ?_
      refine v_iload_n hX eX7_of_21 rfl ?_
      refine v_tsw hX eX7_of_22 (tgt := 99) (by decide) (by decide) ?_
      refine v_aload_n hX eX7_of_99 rfl ?_
      refine v_getA hX eX7_of_100 fi_X7_30 ⟨by decide, rfl⟩ rfl ?_
      refine v_iload_n hX eX7_of_103 rfl ?_
      refine v_iald hX eX7_of_104 (by first | exact ⟨by decide, rfl⟩ | exact hk | exact hk2 | exact AR_rk (by omega)) ⟨by omega, by omega⟩ ?_
      try simp only [Int.toNat_natCast, Int.toNat_zero, Int.reduceToNat]
      refine v_iconst hX eX7_of_105 ?_
      refine v_icmp_ne hX eX7_of_106 (tgt := 113) rfl ⟨by omega, by omega⟩ ⟨by omega, by omega⟩ (fun c106 => ?_) (fun c106 => False.elim ((z c106)))
      refine v_aload_n hX eX7_of_113 rfl ?_
      refine v_aload_n hX eX7_of_114 rfl ?_
      refine v_getA hX eX7_of_115 fi_X7_30 ⟨by decide, rfl⟩ rfl ?_
      refine v_iload_n hX eX7_of_118 rfl ?_
      refine v_iald hX eX7_of_119 (by first | exact ⟨by decide, rfl⟩ | exact hk | exact hk2 | exact AR_rk (by omega)) ⟨by omega, by omega⟩ ?_
      try simp only [Int.toNat_natCast, Int.toNat_zero, Int.reduceToNat]
      refine v_fnV hX eX7_of_120 lV_X7_134 ok_MX3_rankIn (OB_pu (by omega)) rfl ⟨rfl, Nat.le_of_ble_eq_true rfl⟩ (Nat.le_of_ble_eq_true rfl) (c_X3_rankIn (by omega) ⟨by omega, by omega⟩) rfl ?_
      try simp only [Int.toNat_natCast, Int.toNat_zero, Int.reduceToNat]
      exact v_ireturn hX hR eX7_of_123 rfl (hq)
  · have e : ofV h p.toNat 6 = findP (h 10) p (h 1 3).toNat 0 := by
      unfold ofV
      rw [if_neg (by decide), if_neg (by decide), if_neg (by decide), if_neg (by decide), if_neg (by decide), if_neg (by decide)]
      unfold plc
      rw [show ((p.toNat : Nat) : Int) = p by omega]
    rw [e] at hq
    refine v_aload_n hX eX7_of_0 rfl ?_
    refine v_getA hX eX7_of_1 fi_X7_10 ⟨by decide, rfl⟩ rfl ?_
    refine v_iload_n hX eX7_of_4 rfl ?_
    refine v_fnV hX eX7_of_5 lV_X7_55 ok_MX4_pupilOf ⟨by decide, rfl⟩ rfl ⟨rfl, Nat.le_of_ble_eq_true rfl⟩ (Nat.le_of_ble_eq_true rfl) (c_X4_pupilOf hI hp) rfl ?_
    try simp only [Int.toNat_natCast, Int.toNat_zero, Int.reduceToNat]
    refine v_astore_n hX eX7_of_8 rfl rfl ?_
    refine v_aload_n hX eX7_of_9 rfl ?_
    refine v_ifnonnull hX eX7_of_10 (tgt := 21) rfl ?_
    refine v_iload_n hX eX7_of_21 rfl ?_
    refine v_tsw hX eX7_of_22 (tgt := 124) (by decide) (by decide) ?_
    refine v_aload_n hX eX7_of_124 rfl ?_
    refine v_getA hX eX7_of_125 fi_X7_10 ⟨by decide, rfl⟩ rfl ?_
    refine v_iload_n hX eX7_of_128 rfl ?_
    refine v_fnV hX eX7_of_129 lV_X7_137 ok_MX4_placeOf ⟨by decide, rfl⟩ rfl ⟨rfl, Nat.le_of_ble_eq_true rfl⟩ (Nat.le_of_ble_eq_true rfl) (c_X4_placeOf hI ⟨by omega, by omega⟩) rfl ?_
    try simp only [Int.toNat_natCast, Int.toNat_zero, Int.reduceToNat]
    exact v_ireturn hX hR eX7_of_132 rfl (hq)
set_option maxHeartbeats 2000000 in
set_option maxRecDepth 20000 in
theorem t_X7_of {d : Nat} {h : Hp} {p w : Int} (hI : RI h) (hp : rng p) (hw : rng w) (bad : ¬ (inN h p ∧ 0 ≤ w ∧ w ≤ 6)) : CtT (d + 6) MX7_of [mA 0, mI p, mI w] h := by
  refine throwOf ok_MX7_of (Nat.le_of_ble_eq_true rfl) (fun X hX hT => ?_)
  show VW X 0 [some (mA 0), some (mI p), some (mI w), none] [] h
  by_cases hin : inN h p
  · refine v_aload_n hX eX7_of_0 rfl ?_
    refine v_getA hX eX7_of_1 fi_X7_10 ⟨by decide, rfl⟩ rfl ?_
    refine v_iload_n hX eX7_of_4 rfl ?_
    refine v_fnV hX eX7_of_5 lV_X7_55 ok_MX4_pupilOf ⟨by decide, rfl⟩ rfl ⟨rfl, Nat.le_of_ble_eq_true rfl⟩ (Nat.le_of_ble_eq_true rfl) (c_X4_pupilOf hI hin) rfl ?_
    try simp only [Int.toNat_natCast, Int.toNat_zero, Int.reduceToNat]
    refine v_astore_n hX eX7_of_8 rfl rfl ?_
    refine v_aload_n hX eX7_of_9 rfl ?_
    refine v_ifnonnull hX eX7_of_10 (tgt := 21) rfl ?_
    refine v_iload_n hX eX7_of_21 rfl ?_
    refine v_tswD hX eX7_of_22 (tgt := 133) ⟨hw.1, hw.2, ?_⟩ rfl ?_
    · have : ¬ (0 ≤ w ∧ w ≤ 6) := fun z => bad ⟨hin, z⟩
      omega
    exact v_throw hX hT rfl eX7_of_133 eX7_of_136 eX7_of_137 eX7_of_140 (by decide)
  · refine v_aload_n hX eX7_of_0 rfl ?_
    refine v_getA hX eX7_of_1 fi_X7_10 ⟨by decide, rfl⟩ rfl ?_
    refine v_iload_n hX eX7_of_4 rfl ?_
    refine v_fnV hX eX7_of_5 lV_X7_55 ok_MX4_pupilOf ⟨by decide, rfl⟩ rfl ⟨rfl, Nat.le_of_ble_eq_true rfl⟩ (Nat.le_of_ble_eq_true rfl) (c_X4_pupilOf_N hI hp hin) rfl ?_
    try simp only [Int.toNat_natCast, Int.toNat_zero, Int.reduceToNat]
    refine v_astore_nN hX eX7_of_8 rfl rfl ?_
    refine v_aload_nN hX eX7_of_9 rfl ?_
    refine v_ifnonnullN hX eX7_of_10 ?_
    exact v_throw hX hT rfl eX7_of_13 eX7_of_16 eX7_of_17 eX7_of_20 (by decide)
set_option maxHeartbeats 2000000 in
set_option maxRecDepth 20000 in
theorem c_X7_row {d : Nat} {h : Hp} {i : Int} (h7 : 0 ≤ h 0 7 ∧ h 0 7 ≤ 5) (hi : 0 ≤ i ∧ i < h 0 7) : Fn d MX7_row [mA 0, mI i] h (some (mI (h 5 i.toNat))) h := by
  intro Q hq X hX hR
  show VW X 0 [some (mA 0), some (mI i)] [] h
  refine v_iload_n hX eX7_row_0 rfl ?_
  refine v_if_lt hX eX7_row_1 (tgt := 12) rfl ⟨by omega, by omega⟩ (fun c1 => False.elim ((by omega))) (fun c1 => ?_)
  refine v_iload_n hX eX7_row_4 rfl ?_
  refine v_aload_n hX eX7_row_5 rfl ?_
  refine v_getI hX eX7_row_6 fi_X7_119 ⟨by decide, rfl⟩ ?_
  refine v_icmp_lt hX eX7_row_9 (tgt := 20) rfl ⟨by omega, by omega⟩ ⟨by omega, by omega⟩ (fun c9 => ?_) (fun c9 => False.elim ((by omega)))
  refine v_aload_n hX eX7_row_20 rfl ?_
  refine v_getA hX eX7_row_21 fi_X7_34 ⟨by decide, rfl⟩ rfl ?_
  refine v_iload_n hX eX7_row_24 rfl ?_
  refine v_iald hX eX7_row_25 (by first | exact ⟨by decide, rfl⟩ | exact hk | exact hk2 | exact AR_rk (by omega)) ⟨by omega, by omega⟩ ?_
  try simp only [Int.toNat_natCast, Int.toNat_zero, Int.reduceToNat]
  exact v_ireturn hX hR eX7_row_26 rfl (hq)
set_option maxHeartbeats 2000000 in
set_option maxRecDepth 20000 in
theorem t_X7_row {d : Nat} {h : Hp} {i : Int} (h7 : 0 ≤ h 0 7 ∧ h 0 7 ≤ 5) (hr : rng i) (bad : ¬ (0 ≤ i ∧ i < h 0 7)) : CtT (d + 6) MX7_row [mA 0, mI i] h := by
  refine throwOf ok_MX7_row (Nat.le_of_ble_eq_true rfl) (fun X hX hT => ?_)
  show VW X 0 [some (mA 0), some (mI i)] [] h
  refine v_iload_n hX eX7_row_0 rfl ?_
  refine v_if_lt hX eX7_row_1 (tgt := 12) rfl ⟨by omega, by omega⟩ (fun c1 => ?_) (fun c1 => ?_)
  · exact v_throw hX hT rfl eX7_row_12 eX7_row_15 eX7_row_16 eX7_row_19 (by decide)
  · refine v_iload_n hX eX7_row_4 rfl ?_
    refine v_aload_n hX eX7_row_5 rfl ?_
    refine v_getI hX eX7_row_6 fi_X7_119 ⟨by decide, rfl⟩ ?_
    refine v_icmp_lt hX eX7_row_9 (tgt := 20) rfl ⟨by omega, by omega⟩ ⟨by omega, by omega⟩ (fun c9 => ?_) (fun c9 => ?_)
    · exact absurd ⟨by omega, by omega⟩ bad
    · exact v_throw hX hT rfl eX7_row_12 eX7_row_15 eX7_row_16 eX7_row_19 (by decide)
set_option maxHeartbeats 2000000 in
set_option maxRecDepth 20000 in
theorem c_X8_row {d : Nat} {h g : Hp} {i : Int} (hg : up h 44 0 0 = g) (h36 : 0 ≤ g 44 36 ∧ g 44 36 ≤ 5) (hi : 0 ≤ i ∧ i < g 44 36) : Fn (d + 1) MX8_row [mA 44, mI i] h (some (mI (g 67 i.toNat))) g := by
  intro Q hq X hX hR
  show VW X 0 [some (mA 44), some (mI i)] [] h
  refine v_aload_n hX eX8_row_0 rfl ?_
  refine v_iconst hX eX8_row_1 ?_
  refine v_putI hX eX8_row_2 fi_X8_80 ⟨by decide, rfl⟩ ?_
  rw [hg]
  refine v_iload_n hX eX8_row_5 rfl ?_
  refine v_i2l hX eX8_row_6 ⟨by omega, by omega⟩ ?_
  refine v_lconst (z := 0) hX eX8_row_7 (by decide) ?_
  refine v_aload_n hX eX8_row_8 rfl ?_
  refine v_getI hX eX8_row_9 fi_X8_128 ⟨by decide, rfl⟩ ?_
  refine v_iconst hX eX8_row_12 ?_
  refine v_isub hX eX8_row_13 ?_
  refine v_i2l hX eX8_row_14 ⟨by omega, by omega⟩ ?_
  refine v_fnS hX eX8_row_15 lS_X8_87 ok_MX8_in ⟨rfl, Nat.le_of_ble_eq_true rfl⟩ (Nat.le_of_ble_eq_true rfl) (c_X8_in ⟨by omega, by omega⟩ ⟨by decide, by decide⟩ ⟨by omega, by omega⟩) rfl ?_
  try simp only [Int.toNat_natCast, Int.toNat_zero, Int.reduceToNat]
  refine v_ifB_eq hX eX8_row_18 (tgt := 30) rfl (fun c18 => False.elim ((c18 ⟨by omega, by omega⟩))) (fun c18 => ?_)
  refine v_aload_n hX eX8_row_21 rfl ?_
  refine v_getA hX eX8_row_22 fi_X8_77 ⟨by decide, rfl⟩ rfl ?_
  refine v_iload_n hX eX8_row_25 rfl ?_
  refine v_iald hX eX8_row_26 (by first | exact ⟨by decide, rfl⟩ | exact hk | exact hk2 | exact AR_rk (by omega)) ⟨by omega, by omega⟩ ?_
  try simp only [Int.toNat_natCast, Int.toNat_zero, Int.reduceToNat]
  refine v_goto hX eX8_row_27 (tgt := 34) rfl ?_
  exact v_ireturn hX hR eX8_row_34 rfl (hq)
set_option maxHeartbeats 2000000 in
set_option maxRecDepth 20000 in
theorem c_X8_row_N {d : Nat} {h g : Hp} {i : Int} (hg : up h 44 0 0 = g) (h36 : 0 ≤ g 44 36 ∧ g 44 36 ≤ 5) (hr : rng i) (bad : ¬ (0 ≤ i ∧ i < g 44 36)) : Fn (d + 1) MX8_row [mA 44, mI i] h (some (mI 0)) (up g 44 0 1) := by
  intro Q hq X hX hR
  show VW X 0 [some (mA 44), some (mI i)] [] h
  refine v_aload_n hX eX8_row_0 rfl ?_
  refine v_iconst hX eX8_row_1 ?_
  refine v_putI hX eX8_row_2 fi_X8_80 ⟨by decide, rfl⟩ ?_
  rw [hg]
  refine v_iload_n hX eX8_row_5 rfl ?_
  refine v_i2l hX eX8_row_6 ⟨by omega, by omega⟩ ?_
  refine v_lconst (z := 0) hX eX8_row_7 (by decide) ?_
  refine v_aload_n hX eX8_row_8 rfl ?_
  refine v_getI hX eX8_row_9 fi_X8_128 ⟨by decide, rfl⟩ ?_
  refine v_iconst hX eX8_row_12 ?_
  refine v_isub hX eX8_row_13 ?_
  refine v_i2l hX eX8_row_14 ⟨by omega, by omega⟩ ?_
  refine v_fnS hX eX8_row_15 lS_X8_87 ok_MX8_in ⟨rfl, Nat.le_of_ble_eq_true rfl⟩ (Nat.le_of_ble_eq_true rfl) (c_X8_in ⟨by omega, by omega⟩ ⟨by decide, by decide⟩ ⟨by omega, by omega⟩) rfl ?_
  try simp only [Int.toNat_natCast, Int.toNat_zero, Int.reduceToNat]
  refine v_ifB_eq hX eX8_row_18 (tgt := 30) rfl (fun c18 => ?_) (fun c18 => False.elim ((bad ⟨c18.1, by have := c18.2; omega⟩)))
  refine v_aload_n hX eX8_row_30 rfl ?_
  refine v_fnV hX eX8_row_31 lV_X8_133 ok_MX8_refuse ⟨by decide, rfl⟩ rfl ⟨rfl, Nat.le_of_ble_eq_true rfl⟩ (Nat.le_of_ble_eq_true rfl) (c_X8_refuse) rfl ?_
  try simp only [Int.toNat_natCast, Int.toNat_zero, Int.reduceToNat]
  exact v_ireturn hX hR eX8_row_34 rfl (hq)
set_option maxHeartbeats 2000000 in
set_option maxRecDepth 20000 in
theorem c_X8_of_N {d : Nat} {h g : Hp} {p w : Int} (hg : up h 44 0 0 = g) (hn : 0 ≤ g 44 1 ∧ g 44 1 ≤ 8) (hp : rng p) (hw : rng w) (bad : ¬ ((0 ≤ p ∧ p < g 44 1) ∧ 0 ≤ w ∧ w ≤ 6)) : Fn (d + 2) MX8_of [mA 44, mI p, mI w] h (some (mI 0)) (up g 44 0 1) := by
  intro Q hq X hX hR
  show VW X 0 [some (mA 44), some (mI p), some (mI w), none] [] h
  by_cases hin : 0 ≤ p ∧ p < g 44 1
  · refine v_aload_n hX eX8_of_0 rfl ?_
    refine v_iconst hX eX8_of_1 ?_
    refine v_putI hX eX8_of_2 fi_X8_80 ⟨by decide, rfl⟩ ?_
    rw [hg]
    refine v_aload_n hX eX8_of_5 rfl ?_
    refine v_iload_n hX eX8_of_6 rfl ?_
    refine v_fnV hX eX8_of_7 lV_X8_100 ok_MX8_isPupil ⟨by decide, rfl⟩ rfl ⟨rfl, Nat.le_of_ble_eq_true rfl⟩ (Nat.le_of_ble_eq_true rfl) (c_X8_isPupil hn hp) rfl ?_
    try simp only [Int.toNat_natCast, Int.toNat_zero, Int.reduceToNat]
    refine v_ifB_eq hX eX8_of_10 (tgt := 25) rfl (fun c10 => False.elim ((c10 hin))) (fun c10 => ?_)
    refine v_iload_n hX eX8_of_13 rfl ?_
    refine v_i2l hX eX8_of_14 ⟨by omega, by omega⟩ ?_
    refine v_lconst (z := 0) hX eX8_of_15 (by decide) ?_
    refine v_ldc2 (z := 6) hX eX8_of_16 k_X8_131 (by decide) ?_
    refine v_fnS hX eX8_of_19 lS_X8_87 ok_MX8_in ⟨rfl, Nat.le_of_ble_eq_true rfl⟩ (Nat.le_of_ble_eq_true rfl) (c_X8_in ⟨by omega, by omega⟩ ⟨by decide, by decide⟩ ⟨by decide, by decide⟩) rfl ?_
    try simp only [Int.toNat_natCast, Int.toNat_zero, Int.reduceToNat]
    refine v_ifB_ne hX eX8_of_22 (tgt := 30) rfl (fun c22 => False.elim ((bad ⟨hin, by have := c22; omega⟩))) (fun c22 => ?_)
    refine v_aload_n hX eX8_of_25 rfl ?_
    refine v_fnV hX eX8_of_26 lV_X8_133 ok_MX8_refuse ⟨by decide, rfl⟩ rfl ⟨rfl, Nat.le_of_ble_eq_true rfl⟩ (Nat.le_of_ble_eq_true rfl) (c_X8_refuse) rfl ?_
    try simp only [Int.toNat_natCast, Int.toNat_zero, Int.reduceToNat]
    exact v_ireturn hX hR eX8_of_29 rfl (hq)
  · refine v_aload_n hX eX8_of_0 rfl ?_
    refine v_iconst hX eX8_of_1 ?_
    refine v_putI hX eX8_of_2 fi_X8_80 ⟨by decide, rfl⟩ ?_
    rw [hg]
    refine v_aload_n hX eX8_of_5 rfl ?_
    refine v_iload_n hX eX8_of_6 rfl ?_
    refine v_fnV hX eX8_of_7 lV_X8_100 ok_MX8_isPupil ⟨by decide, rfl⟩ rfl ⟨rfl, Nat.le_of_ble_eq_true rfl⟩ (Nat.le_of_ble_eq_true rfl) (c_X8_isPupil hn hp) rfl ?_
    try simp only [Int.toNat_natCast, Int.toNat_zero, Int.reduceToNat]
    refine v_ifB_eq hX eX8_of_10 (tgt := 25) rfl (fun c10 => ?_) (fun c10 => False.elim ((hin c10)))
    refine v_aload_n hX eX8_of_25 rfl ?_
    refine v_fnV hX eX8_of_26 lV_X8_133 ok_MX8_refuse ⟨by decide, rfl⟩ rfl ⟨rfl, Nat.le_of_ble_eq_true rfl⟩ (Nat.le_of_ble_eq_true rfl) (c_X8_refuse) rfl ?_
    try simp only [Int.toNat_natCast, Int.toNat_zero, Int.reduceToNat]
    exact v_ireturn hX hR eX8_of_29 rfl (hq)
/-- the model's place by LOTS -/
theorem plc_first {f : Nat → Int} {p : Int} : ∀ (k a i : Nat), a ≤ i → i < a + k → f i = p → (∀ j, a ≤ j → j < i → f j ≠ p) → findP f p k a = i
  | 0, _, _, h1, h2, _, _ => by omega
  | k + 1, a, i, h1, h2, h3, h4 => by
    rw [findP]
    by_cases z : i = a
    · subst z; rw [if_pos h3]
    · rw [if_neg (h4 a (Nat.le_refl _) (by omega))]
      exact plc_first k (a + 1) i (by omega) (by omega) h3 (fun j q1 q2 => h4 j (by omega) q2)
set_option maxHeartbeats 2000000 in
set_option maxRecDepth 20000 in
theorem c_X8_of {d : Nat} {h g : Hp} {p : Nat} {w : Int} (hg : up h 44 0 0 = g) (hI : RI g) (r : RLr g) (wl : WL g) (o : OPM g) (pq : PQ g) (hp : p < (g 1 3).toNat) (hw : 0 ≤ w ∧ w ≤ 6) : Fn (d + 2) MX8_of [mA 44, mI p, mI w] h (some (mI (ofV g p w))) g := by
  intro Q hq X hX hR
  have hn := hI.n
  have hm := hI.q
  have en := r.n
  have rp := r.pu hp
  have w1 := wl p hp
  have pk := plc_ok o hp
  have q0 := pq p hp
  have u6 := (hI.pu (p := p) (by omega)).2.2.2.2.2.1
  have rk := WL.rk hI wl hp
  have rr := rkI_rng hI (p := p) (by omega) (g 4 p)
  have start : (∀ l3, VW X 30 [some (mA 44), some (mI p), some (mI w), l3] [] g) → VW X 0 [some (mA 44), some (mI p), some (mI w), none] [] h := by
    intro k
    refine v_aload_n hX eX8_of_0 rfl ?_
    refine v_iconst hX eX8_of_1 ?_
    refine v_putI hX eX8_of_2 fi_X8_80 ⟨by decide, rfl⟩ ?_
    rw [hg]
    refine v_aload_n hX eX8_of_5 rfl ?_
    refine v_iload_n hX eX8_of_6 rfl ?_
    refine v_fnV hX eX8_of_7 lV_X8_100 ok_MX8_isPupil ⟨by decide, rfl⟩ rfl ⟨rfl, Nat.le_of_ble_eq_true rfl⟩ (Nat.le_of_ble_eq_true rfl) (c_X8_isPupil (by omega) ⟨by omega, by omega⟩) rfl ?_
    try simp only [Int.toNat_natCast, Int.toNat_zero, Int.reduceToNat]
    refine v_ifB_eq hX eX8_of_10 (tgt := 25) rfl (fun c10 => False.elim ((c10 ⟨by omega, by omega⟩))) (fun c10 => ?_)
    refine v_iload_n hX eX8_of_13 rfl ?_
    refine v_i2l hX eX8_of_14 ⟨by omega, by omega⟩ ?_
    refine v_lconst (z := 0) hX eX8_of_15 (by decide) ?_
    refine v_ldc2 (z := 6) hX eX8_of_16 k_X8_131 (by decide) ?_
    refine v_fnS hX eX8_of_19 lS_X8_87 ok_MX8_in ⟨rfl, Nat.le_of_ble_eq_true rfl⟩ (Nat.le_of_ble_eq_true rfl) (c_X8_in ⟨by omega, by omega⟩ ⟨by decide, by decide⟩ ⟨by decide, by decide⟩) rfl ?_
    try simp only [Int.toNat_natCast, Int.toNat_zero, Int.reduceToNat]
    refine v_ifB_ne hX eX8_of_22 (tgt := 30) rfl (fun c22 => ?_) (fun c22 => False.elim ((c22 ⟨by omega, by omega⟩)))
    exact k _
  show VW X 0 [some (mA 44), some (mI p), some (mI w), none] [] h
  refine start (fun l3 => ?_)
  rcases (show w = 0 ∨ w = 1 ∨ w = 2 ∨ w = 3 ∨ w = 4 ∨ w = 5 ∨ w = 6 by omega) with rfl | rfl | rfl | rfl | rfl | rfl | rfl
  · have e : ofV g p 0 = g 45 p := by unfold ofV; rw [if_pos rfl]; exact rp.1.symm
    rw [e] at hq
    refine v_iload_n hX eX8_of_30 rfl ?_
    refine v_tsw hX eX8_of_31 (tgt := 68) (by decide) (by decide) ?_
    refine v_aload_n hX eX8_of_68 rfl ?_
    refine v_getA hX eX8_of_69 fi_X8_9 ⟨by decide, rfl⟩ rfl ?_
    refine v_iload_n hX eX8_of_72 rfl ?_
    refine v_iald hX eX8_of_73 (by first | exact ⟨by decide, rfl⟩ | exact hk | exact hk2 | exact AR_rk (by omega)) ⟨by omega, by omega⟩ ?_
    try simp only [Int.toNat_natCast, Int.toNat_zero, Int.reduceToNat]
    exact v_ireturn hX hR eX8_of_74 rfl (hq)
  · rcases u6 with z | z
    · have e : ofV g p 1 = 0 := by unfold ofV; rw [if_neg (by decide), if_pos rfl]; exact z
      rw [e] at hq
      refine v_iload_n hX eX8_of_30 rfl ?_
      refine v_tsw hX eX8_of_31 (tgt := 75) (by decide) (by decide) ?_
      refine v_aload_n hX eX8_of_75 rfl ?_
      refine v_getA hX eX8_of_76 fi_X8_13 ⟨by decide, rfl⟩ rfl ?_
      refine v_iload_n hX eX8_of_79 rfl ?_
      refine v_zald hX eX8_of_80 (by first | exact ⟨by decide, rfl⟩ | exact hk | exact hk2 | exact AR_rk (by omega)) ⟨by omega, by omega⟩ ?_
      try simp only [Int.toNat_natCast, Int.toNat_zero, Int.reduceToNat]
      rw [rp.2, z]
      refine v_if_eq hX eX8_of_81 (tgt := 88) rfl ⟨by omega, by omega⟩ (fun c81 => ?_) (fun c81 => False.elim ((by omega)))
      refine v_iconst hX eX8_of_88 ?_
      exact v_ireturn hX hR eX8_of_89 rfl (hq)
    · have e : ofV g p 1 = 1 := by unfold ofV; rw [if_neg (by decide), if_pos rfl]; exact z
      rw [e] at hq
      refine v_iload_n hX eX8_of_30 rfl ?_
      refine v_tsw hX eX8_of_31 (tgt := 75) (by decide) (by decide) ?_
      refine v_aload_n hX eX8_of_75 rfl ?_
      refine v_getA hX eX8_of_76 fi_X8_13 ⟨by decide, rfl⟩ rfl ?_
      refine v_iload_n hX eX8_of_79 rfl ?_
      refine v_zald hX eX8_of_80 (by first | exact ⟨by decide, rfl⟩ | exact hk | exact hk2 | exact AR_rk (by omega)) ⟨by omega, by omega⟩ ?_
      try simp only [Int.toNat_natCast, Int.toNat_zero, Int.reduceToNat]
      rw [rp.2, z]
      refine v_if_eq hX eX8_of_81 (tgt := 88) rfl ⟨by omega, by omega⟩ (fun c81 => False.elim ((by omega))) (fun c81 => ?_)
      refine v_iconst hX eX8_of_84 ?_
      refine v_goto hX eX8_of_85 (tgt := 89) rfl ?_
      exact v_ireturn hX hR eX8_of_89 rfl (hq)
  · have e : ofV g p 2 = g 47 p := by unfold ofV; rw [if_neg (by decide), if_neg (by decide), if_pos rfl]; exact w1.1.2.2.2.symm
    rw [e] at hq
    refine v_iload_n hX eX8_of_30 rfl ?_
    refine v_tsw hX eX8_of_31 (tgt := 90) (by decide) (by decide) ?_
    refine v_aload_n hX eX8_of_90 rfl ?_
    refine v_getA hX eX8_of_91 fi_X8_17 ⟨by decide, rfl⟩ rfl ?_
    refine v_iload_n hX eX8_of_94 rfl ?_
    refine v_iald hX eX8_of_95 (by first | exact ⟨by decide, rfl⟩ | exact hk | exact hk2 | exact AR_rk (by omega)) ⟨by omega, by omega⟩ ?_
    try simp only [Int.toNat_natCast, Int.toNat_zero, Int.reduceToNat]
    exact v_ireturn hX hR eX8_of_96 rfl (hq)
  · have e : ofV g p 3 = g 49 p := by unfold ofV; rw [if_neg (by decide), if_neg (by decide), if_neg (by decide), if_pos rfl]; exact w1.2.symm
    rw [e] at hq
    refine v_iload_n hX eX8_of_30 rfl ?_
    refine v_tsw hX eX8_of_31 (tgt := 97) (by decide) (by decide) ?_
    refine v_aload_n hX eX8_of_97 rfl ?_
    refine v_getA hX eX8_of_98 fi_X8_23 ⟨by decide, rfl⟩ rfl ?_
    refine v_iload_n hX eX8_of_101 rfl ?_
    refine v_iald hX eX8_of_102 (by first | exact ⟨by decide, rfl⟩ | exact hk | exact hk2 | exact AR_rk (by omega)) ⟨by omega, by omega⟩ ?_
    try simp only [Int.toNat_natCast, Int.toNat_zero, Int.reduceToNat]
    exact v_ireturn hX hR eX8_of_103 rfl (hq)
  · have e : ofV g p 4 = g 50 p := by unfold ofV; rw [if_neg (by decide), if_neg (by decide), if_neg (by decide), if_neg (by decide), if_pos rfl]; exact q0.1.symm
    rw [e] at hq
    refine v_iload_n hX eX8_of_30 rfl ?_
    refine v_tsw hX eX8_of_31 (tgt := 104) (by decide) (by decide) ?_
    refine v_aload_n hX eX8_of_104 rfl ?_
    refine v_getA hX eX8_of_105 fi_X8_26 ⟨by decide, rfl⟩ rfl ?_
    refine v_iload_n hX eX8_of_108 rfl ?_
    refine v_iald hX eX8_of_109 (by first | exact ⟨by decide, rfl⟩ | exact hk | exact hk2 | exact AR_rk (by omega)) ⟨by omega, by omega⟩ ?_
    try simp only [Int.toNat_natCast, Int.toNat_zero, Int.reduceToNat]
    exact v_ireturn hX hR eX8_of_110 rfl (hq)
  · by_cases z : g 4 p = -1
    · have e : ofV g p 5 = 0 := by unfold ofV; rw [if_neg (by decide), if_neg (by decide), if_neg (by decide), if_neg (by decide), if_neg (by decide), if_pos rfl, if_pos z]
      rw [e] at hq
      refine v_iload_n hX eX8_of_30 rfl ?_
      refine v_tsw hX eX8_of_31 (tgt := 111) (by decide) (by decide) ?_
      refine v_aload_n hX eX8_of_111 rfl ?_
      refine v_getA hX eX8_of_112 fi_X8_26 ⟨by decide, rfl⟩ rfl ?_
      refine v_iload_n hX eX8_of_115 rfl ?_
      refine v_iald hX eX8_of_116 (by first | exact ⟨by decide, rfl⟩ | exact hk | exact hk2 | exact AR_rk (by omega)) ⟨by omega, by omega⟩ ?_
      try simp only [Int.toNat_natCast, Int.toNat_zero, Int.reduceToNat]
      rw [q0.1]
      refine v_if_ge hX eX8_of_117 (tgt := 124) rfl ⟨by omega, by omega⟩ (fun c117 => False.elim ((by omega))) (fun c117 => ?_)
      refine v_iconst hX eX8_of_120 ?_
      refine v_goto hX eX8_of_121 (tgt := 135) rfl ?_
      exact v_ireturn hX hR eX8_of_135 rfl (hq)
    · have e : ofV g p 5 = rkI g p (g 4 p) := by unfold ofV; rw [if_neg (by decide), if_neg (by decide), if_neg (by decide), if_neg (by decide), if_neg (by decide), if_pos rfl, if_neg z]
      rw [e] at hq
      refine v_iload_n hX eX8_of_30 rfl ?_
      refine v_tsw hX eX8_of_31 (tgt := 111) (by decide) (by decide) ?_
      refine v_aload_n hX eX8_of_111 rfl ?_
      refine v_getA hX eX8_of_112 fi_X8_26 ⟨by decide, rfl⟩ rfl ?_
      refine v_iload_n hX eX8_of_115 rfl ?_
      refine v_iald hX eX8_of_116 (by first | exact ⟨by decide, rfl⟩ | exact hk | exact hk2 | exact AR_rk (by omega)) ⟨by omega, by omega⟩ ?_
      try simp only [Int.toNat_natCast, Int.toNat_zero, Int.reduceToNat]
      rw [q0.1]
      refine v_if_ge hX eX8_of_117 (tgt := 124) rfl ⟨by omega, by omega⟩ (fun c117 => ?_) (fun c117 => False.elim ((by omega)))
      refine v_aload_n hX eX8_of_124 rfl ?_
      refine v_iload_n hX eX8_of_125 rfl ?_
      refine v_aload_n hX eX8_of_126 rfl ?_
      refine v_getA hX eX8_of_127 fi_X8_26 ⟨by decide, rfl⟩ rfl ?_
      refine v_iload_n hX eX8_of_130 rfl ?_
      refine v_iald hX eX8_of_131 (by first | exact ⟨by decide, rfl⟩ | exact hk | exact hk2 | exact AR_rk (by omega)) ⟨by omega, by omega⟩ ?_
      try simp only [Int.toNat_natCast, Int.toNat_zero, Int.reduceToNat]
      rw [q0.1]
      refine v_fnV hX eX8_of_132 lV_X8_136 ok_MX8_rankOf ⟨by decide, rfl⟩ rfl ⟨rfl, Nat.le_of_ble_eq_true rfl⟩ (Nat.le_of_ble_eq_true rfl) (c_X8_rankOf (by omega) rk ⟨by omega, by omega⟩) rfl ?_
      try simp only [Int.toNat_natCast, Int.toNat_zero, Int.reduceToNat]
      exact v_ireturn hX hR eX8_of_135 rfl (hq)
  · have e : ofV g p 6 = plc g p := by
      unfold ofV
      rw [if_neg (by decide), if_neg (by decide), if_neg (by decide), if_neg (by decide), if_neg (by decide), if_neg (by decide)]
    rw [e] at hq
    have loop : ∀ (k i : Nat), i + k = (plc g p).toNat → (∀ j, j < i → g 10 j ≠ p) → VW X 138 [some (mA 44), some (mI p), some (mI 6), some (mI i)] [] g := by
      intro k
      induction k with
      | zero =>
        intro i hi hno
        have l := r.lot (i := i) (by omega)
        have e10 : g 10 i = p := by rw [show i = (plc g p).toNat by omega]; exact pk.2.2
        have fin : Q (some (mI (i : Nat))) g := by rw [show ((i : Nat) : Int) = plc g p by omega]; exact hq
        refine v_aload_n hX eX8_of_138 rfl ?_
        refine v_getA hX eX8_of_139 fi_X8_35 ⟨by decide, rfl⟩ rfl ?_
        refine v_iload_n hX eX8_of_142 rfl ?_
        refine v_iald hX eX8_of_143 (by first | exact ⟨by decide, rfl⟩ | exact hk | exact hk2 | exact AR_rk (by omega)) ⟨by omega, by omega⟩ ?_
        try simp only [Int.toNat_natCast, Int.toNat_zero, Int.reduceToNat]
        rw [l.1, e10]
        refine v_iload_n hX eX8_of_144 rfl ?_
        refine v_icmp_eq hX eX8_of_145 (tgt := 154) rfl ⟨by omega, by omega⟩ ⟨by omega, by omega⟩ (fun c145 => ?_) (fun c145 => False.elim ((by omega)))
        refine v_iload_n hX eX8_of_154 rfl ?_
        exact v_ireturn hX hR eX8_of_155 rfl (fin)
      | succ k ih =>
        intro i hi hno
        have l := r.lot (i := i) (by omega)
        have ne : g 10 i ≠ p := fun z => by
          have := o.2.2 i (plc g p).toNat (by omega) (by omega) (z.trans pk.2.2.symm)
          omega
        refine v_aload_n hX eX8_of_138 rfl ?_
        refine v_getA hX eX8_of_139 fi_X8_35 ⟨by decide, rfl⟩ rfl ?_
        refine v_iload_n hX eX8_of_142 rfl ?_
        refine v_iald hX eX8_of_143 (by first | exact ⟨by decide, rfl⟩ | exact hk | exact hk2 | exact AR_rk (by omega)) ⟨by omega, by omega⟩ ?_
        try simp only [Int.toNat_natCast, Int.toNat_zero, Int.reduceToNat]
        rw [l.1]
        refine v_iload_n hX eX8_of_144 rfl ?_
        refine v_icmp_eq hX eX8_of_145 (tgt := 154) rfl ⟨by omega, by omega⟩ ⟨by omega, by omega⟩ (fun c145 => False.elim ((ne c145))) (fun c145 => ?_)
        refine v_iinc hX eX8_of_148 rfl rfl rfl ?_
        refine v_goto hX eX8_of_151 (tgt := 138) rfl ?_
        exact ih (i + 1) (by omega) (fun j hj => if z : j = i then (by subst z; exact ne) else hno j (by omega))
    refine v_iload_n hX eX8_of_30 rfl ?_
    refine v_tswD hX eX8_of_31 (tgt := 136) ⟨by omega, by omega, by omega⟩ rfl ?_
    refine v_iconst hX eX8_of_136 ?_
    refine v_istore_n hX eX8_of_137 rfl rfl ?_
    exact loop (plc g p).toNat 0 (by omega) (fun j hj => absurd hj (Nat.not_lt_zero _))
