/-! WishSharer: who and what -/
def addP (h : Hp) (k : Int) : Hp := up (up (up h (23 + (h 1 3).toNat) 1 k) 10 (h 1 3).toNat (h 1 3)) 1 3 (h 1 3 + 1)
set_option maxHeartbeats 2000000 in
set_option maxRecDepth 20000 in
theorem c_X7_pupil_N {d : Nat} {h : Hp} {k : Int} (hI : RI h) (hk : rng k) (hb : k < 0 ∨ 255 < k ∨ h 1 3 = 8) : Fn (d + 1) MX7_pupil [mA 0, mI k] h (some (mI (-1))) h := by
  intro Q hq X hX hR
  show VW X 0 [some (mA 0), some (mI k)] [] h
  refine v_iload_n hX eX7_pupil_0 rfl ?_
  refine v_if_lt hX eX7_pupil_1 (tgt := 11) rfl ⟨by omega, by omega⟩ (fun c1 => ?_) (fun c1 => ?_)
  · refine v_iconst hX eX7_pupil_11 ?_
    refine v_goto hX eX7_pupil_12 (tgt := 23) rfl ?_
    exact v_ireturn hX hR eX7_pupil_23 rfl (hq)
  · refine v_iload_n hX eX7_pupil_4 rfl ?_
    refine v_sipush hX eX7_pupil_5 (by decide) ?_
    refine v_icmp_le hX eX7_pupil_8 (tgt := 15) rfl ⟨by omega, by omega⟩ ⟨by omega, by omega⟩ (fun c8 => ?_) (fun c8 => ?_)
    · refine v_aload_n hX eX7_pupil_15 rfl ?_
      refine v_getA hX eX7_pupil_16 fi_X7_10 ⟨by decide, rfl⟩ rfl ?_
      refine v_iload_n hX eX7_pupil_19 rfl ?_
      refine v_fnV hX eX7_pupil_20 lV_X7_43 ok_MX4_addPupil ⟨by decide, rfl⟩ rfl ⟨rfl, Nat.le_of_ble_eq_true rfl⟩ (Nat.le_of_ble_eq_true rfl) (c_X4_addPupil_N hI (by omega)) rfl ?_
      try simp only [Int.toNat_natCast, Int.toNat_zero, Int.reduceToNat]
      exact v_ireturn hX hR eX7_pupil_23 rfl (hq)
    · refine v_iconst hX eX7_pupil_11 ?_
      refine v_goto hX eX7_pupil_12 (tgt := 23) rfl ?_
      exact v_ireturn hX hR eX7_pupil_23 rfl (hq)
set_option maxHeartbeats 2000000 in
set_option maxRecDepth 20000 in
theorem c_X7_pupil {d : Nat} {h : Hp} {k : Int} (hI : RI h) (hk : 0 ≤ k ∧ k ≤ 255) (hn : h 1 3 < 8) : Fn (d + 1) MX7_pupil [mA 0, mI k] h (some (mI (h 1 3))) (addP h k) := by
  intro Q hq X hX hR
  show VW X 0 [some (mA 0), some (mI k)] [] h
  refine v_iload_n hX eX7_pupil_0 rfl ?_
  refine v_if_lt hX eX7_pupil_1 (tgt := 11) rfl ⟨by omega, by omega⟩ (fun c1 => False.elim ((by omega))) (fun c1 => ?_)
  refine v_iload_n hX eX7_pupil_4 rfl ?_
  refine v_sipush hX eX7_pupil_5 (by decide) ?_
  refine v_icmp_le hX eX7_pupil_8 (tgt := 15) rfl ⟨by omega, by omega⟩ ⟨by omega, by omega⟩ (fun c8 => ?_) (fun c8 => False.elim ((by omega)))
  refine v_aload_n hX eX7_pupil_15 rfl ?_
  refine v_getA hX eX7_pupil_16 fi_X7_10 ⟨by decide, rfl⟩ rfl ?_
  refine v_iload_n hX eX7_pupil_19 rfl ?_
  refine v_fnV hX eX7_pupil_20 lV_X7_43 ok_MX4_addPupil ⟨by decide, rfl⟩ rfl ⟨rfl, Nat.le_of_ble_eq_true rfl⟩ (Nat.le_of_ble_eq_true rfl) (c_X4_addPupil hI hn) rfl ?_
  try simp only [Int.toNat_natCast, Int.toNat_zero, Int.reduceToNat]
  exact v_ireturn hX hR eX7_pupil_23 rfl (hq)
def prjOk (h : Hp) (k l m s ld : Int) : Prop := (0 ≤ k ∧ k ≤ 3) ∧ 1 ≤ l ∧ l ≤ m ∧ m ≤ 8 ∧ (0 ≤ s ∧ s ≤ 255) ∧ (k = 3 → inN h ld) ∧ h 1 4 < 5
set_option maxHeartbeats 2000000 in
set_option maxRecDepth 20000 in
theorem c_X7_project {d : Nat} {h : Hp} {k l m s ld : Int} (hI : RI h) (hr : rng ld) (ok : prjOk h k l m s ld) : Fn (d + 1) MX7_project [mA 0, mI k, mI l, mI m, mI s, mI ld] h (some (mI (h 1 4))) (newPr h k l m s ld) := by
  intro Q hq X hX hR
  obtain ⟨o1, o2, o3, o4, o5, o6, o7⟩ := ok
  show VW X 0 [some (mA 0), some (mI k), some (mI l), some (mI m), some (mI s), some (mI ld)] [] h
  refine v_iload_n hX eX7_project_0 rfl ?_
  refine v_if_lt hX eX7_project_1 (tgt := 25) rfl ⟨by omega, by omega⟩ (fun c1 => False.elim ((by omega))) (fun c1 => ?_)
  refine v_iload_n hX eX7_project_4 rfl ?_
  refine v_iconst hX eX7_project_5 ?_
  refine v_icmp_gt hX eX7_project_6 (tgt := 25) rfl ⟨by omega, by omega⟩ ⟨by omega, by omega⟩ (fun c6 => False.elim ((by omega))) (fun c6 => ?_)
  refine v_iload_n hX eX7_project_9 rfl ?_
  refine v_iconst hX eX7_project_10 ?_
  refine v_icmp_lt hX eX7_project_11 (tgt := 25) rfl ⟨by omega, by omega⟩ ⟨by omega, by omega⟩ (fun c11 => False.elim ((by omega))) (fun c11 => ?_)
  refine v_iload_n hX eX7_project_14 rfl ?_
  refine v_iload_n hX eX7_project_15 rfl ?_
  refine v_icmp_lt hX eX7_project_16 (tgt := 25) rfl ⟨by omega, by omega⟩ ⟨by omega, by omega⟩ (fun c16 => False.elim ((by omega))) (fun c16 => ?_)
  refine v_iload_n hX eX7_project_19 rfl ?_
  refine v_bipush hX eX7_project_20 (by decide) ?_
  refine v_icmp_le hX eX7_project_22 (tgt := 27) rfl ⟨by omega, by omega⟩ ⟨by omega, by omega⟩ (fun c22 => ?_) (fun c22 => False.elim ((by omega)))
  refine v_iload hX eX7_project_27 rfl ?_
  refine v_if_lt hX eX7_project_29 (tgt := 57) rfl ⟨by omega, by omega⟩ (fun c29 => False.elim ((by omega))) (fun c29 => ?_)
  refine v_iload hX eX7_project_32 rfl ?_
  refine v_sipush hX eX7_project_34 (by decide) ?_
  refine v_icmp_gt hX eX7_project_37 (tgt := 57) rfl ⟨by omega, by omega⟩ ⟨by omega, by omega⟩ (fun c37 => False.elim ((by omega))) (fun c37 => ?_)
  refine v_iload_n hX eX7_project_40 rfl ?_
  refine v_iconst hX eX7_project_41 ?_
  refine v_icmp_ne hX eX7_project_42 (tgt := 59) rfl ⟨by omega, by omega⟩ ⟨by omega, by omega⟩ (fun c42 => ?_) (fun c42 => ?_)
  · refine v_aload_n hX eX7_project_59 rfl ?_
    refine v_getA hX eX7_project_60 fi_X7_10 ⟨by decide, rfl⟩ rfl ?_
    refine v_iload_n hX eX7_project_63 rfl ?_
    refine v_iload_n hX eX7_project_64 rfl ?_
    refine v_iload_n hX eX7_project_65 rfl ?_
    refine v_iload hX eX7_project_66 rfl ?_
    refine v_iload hX eX7_project_68 rfl ?_
    refine v_fnV hX eX7_project_70 lV_X7_51 ok_MX4_addProject ⟨by decide, rfl⟩ rfl ⟨rfl, Nat.le_of_ble_eq_true rfl⟩ (Nat.le_of_ble_eq_true rfl) (c_X4_addProject hI o7) rfl ?_
    try simp only [Int.toNat_natCast, Int.toNat_zero, Int.reduceToNat]
    exact v_ireturn hX hR eX7_project_73 rfl (hq)
  · refine v_aload_n hX eX7_project_45 rfl ?_
    refine v_getA hX eX7_project_46 fi_X7_10 ⟨by decide, rfl⟩ rfl ?_
    refine v_iload hX eX7_project_49 rfl ?_
    refine v_fnV hX eX7_project_51 lV_X7_47 ok_MX4_isPupil ⟨by decide, rfl⟩ rfl ⟨rfl, Nat.le_of_ble_eq_true rfl⟩ (Nat.le_of_ble_eq_true rfl) (c_X4_isPupil hI hr) rfl ?_
    try simp only [Int.toNat_natCast, Int.toNat_zero, Int.reduceToNat]
    refine v_ifB_ne hX eX7_project_54 (tgt := 59) rfl (fun c54 => ?_) (fun c54 => False.elim ((c54 (o6 (by omega)))))
    refine v_aload_n hX eX7_project_59 rfl ?_
    refine v_getA hX eX7_project_60 fi_X7_10 ⟨by decide, rfl⟩ rfl ?_
    refine v_iload_n hX eX7_project_63 rfl ?_
    refine v_iload_n hX eX7_project_64 rfl ?_
    refine v_iload_n hX eX7_project_65 rfl ?_
    refine v_iload hX eX7_project_66 rfl ?_
    refine v_iload hX eX7_project_68 rfl ?_
    refine v_fnV hX eX7_project_70 lV_X7_51 ok_MX4_addProject ⟨by decide, rfl⟩ rfl ⟨rfl, Nat.le_of_ble_eq_true rfl⟩ (Nat.le_of_ble_eq_true rfl) (c_X4_addProject hI o7) rfl ?_
    try simp only [Int.toNat_natCast, Int.toNat_zero, Int.reduceToNat]
    exact v_ireturn hX hR eX7_project_73 rfl (hq)
set_option maxHeartbeats 2000000 in
set_option maxRecDepth 20000 in
theorem c_X7_project_N {d : Nat} {h : Hp} {k l m s ld : Int} (hI : RI h) (hk : rng k) (hl : rng l) (hm : rng m) (hs : rng s) (hr : rng ld) (bad : ¬ prjOk h k l m s ld) : Fn (d + 1) MX7_project [mA 0, mI k, mI l, mI m, mI s, mI ld] h (some (mI (-1))) h := by
  intro Q hq X hX hR
  have hQ := hI.q
  show VW X 0 [some (mA 0), some (mI k), some (mI l), some (mI m), some (mI s), some (mI ld)] [] h
  refine v_iload_n hX eX7_project_0 rfl ?_
  refine v_if_lt hX eX7_project_1 (tgt := 25) rfl ⟨by omega, by omega⟩ (fun c1 => ?_) (fun c1 => ?_)
  · refine v_iconst hX eX7_project_25 ?_
    exact v_ireturn hX hR eX7_project_26 rfl (hq)
  · refine v_iload_n hX eX7_project_4 rfl ?_
    refine v_iconst hX eX7_project_5 ?_
    refine v_icmp_gt hX eX7_project_6 (tgt := 25) rfl ⟨by omega, by omega⟩ ⟨by omega, by omega⟩ (fun c6 => ?_) (fun c6 => ?_)
    · refine v_iconst hX eX7_project_25 ?_
      exact v_ireturn hX hR eX7_project_26 rfl (hq)
    · refine v_iload_n hX eX7_project_9 rfl ?_
      refine v_iconst hX eX7_project_10 ?_
      refine v_icmp_lt hX eX7_project_11 (tgt := 25) rfl ⟨by omega, by omega⟩ ⟨by omega, by omega⟩ (fun c11 => ?_) (fun c11 => ?_)
      · refine v_iconst hX eX7_project_25 ?_
        exact v_ireturn hX hR eX7_project_26 rfl (hq)
      · refine v_iload_n hX eX7_project_14 rfl ?_
        refine v_iload_n hX eX7_project_15 rfl ?_
        refine v_icmp_lt hX eX7_project_16 (tgt := 25) rfl ⟨by omega, by omega⟩ ⟨by omega, by omega⟩ (fun c16 => ?_) (fun c16 => ?_)
        · refine v_iconst hX eX7_project_25 ?_
          exact v_ireturn hX hR eX7_project_26 rfl (hq)
        · refine v_iload_n hX eX7_project_19 rfl ?_
          refine v_bipush hX eX7_project_20 (by decide) ?_
          refine v_icmp_le hX eX7_project_22 (tgt := 27) rfl ⟨by omega, by omega⟩ ⟨by omega, by omega⟩ (fun c22 => ?_) (fun c22 => ?_)
          · refine v_iload hX eX7_project_27 rfl ?_
            refine v_if_lt hX eX7_project_29 (tgt := 57) rfl ⟨by omega, by omega⟩ (fun c29 => ?_) (fun c29 => ?_)
            · refine v_iconst hX eX7_project_57 ?_
              exact v_ireturn hX hR eX7_project_58 rfl (hq)
            · refine v_iload hX eX7_project_32 rfl ?_
              refine v_sipush hX eX7_project_34 (by decide) ?_
              refine v_icmp_gt hX eX7_project_37 (tgt := 57) rfl ⟨by omega, by omega⟩ ⟨by omega, by omega⟩ (fun c37 => ?_) (fun c37 => ?_)
              · refine v_iconst hX eX7_project_57 ?_
                exact v_ireturn hX hR eX7_project_58 rfl (hq)
              · refine v_iload_n hX eX7_project_40 rfl ?_
                refine v_iconst hX eX7_project_41 ?_
                refine v_icmp_ne hX eX7_project_42 (tgt := 59) rfl ⟨by omega, by omega⟩ ⟨by omega, by omega⟩ (fun c42 => ?_) (fun c42 => ?_)
                · refine v_aload_n hX eX7_project_59 rfl ?_
                  refine v_getA hX eX7_project_60 fi_X7_10 ⟨by decide, rfl⟩ rfl ?_
                  refine v_iload_n hX eX7_project_63 rfl ?_
                  refine v_iload_n hX eX7_project_64 rfl ?_
                  refine v_iload_n hX eX7_project_65 rfl ?_
                  refine v_iload hX eX7_project_66 rfl ?_
                  refine v_iload hX eX7_project_68 rfl ?_
                  refine v_fnV hX eX7_project_70 lV_X7_51 ok_MX4_addProject ⟨by decide, rfl⟩ rfl ⟨rfl, Nat.le_of_ble_eq_true rfl⟩ (Nat.le_of_ble_eq_true rfl) (c_X4_addProject_N hI (Classical.byContradiction (fun z => bad ⟨by omega, by omega, by omega, by omega, by omega, fun e => absurd e c42, by omega⟩))) rfl ?_
                  try simp only [Int.toNat_natCast, Int.toNat_zero, Int.reduceToNat]
                  exact v_ireturn hX hR eX7_project_73 rfl (hq)
                · refine v_aload_n hX eX7_project_45 rfl ?_
                  refine v_getA hX eX7_project_46 fi_X7_10 ⟨by decide, rfl⟩ rfl ?_
                  refine v_iload hX eX7_project_49 rfl ?_
                  refine v_fnV hX eX7_project_51 lV_X7_47 ok_MX4_isPupil ⟨by decide, rfl⟩ rfl ⟨rfl, Nat.le_of_ble_eq_true rfl⟩ (Nat.le_of_ble_eq_true rfl) (c_X4_isPupil hI hr) rfl ?_
                  try simp only [Int.toNat_natCast, Int.toNat_zero, Int.reduceToNat]
                  refine v_ifB_ne hX eX7_project_54 (tgt := 59) rfl (fun c54 => ?_) (fun c54 => ?_)
                  · refine v_aload_n hX eX7_project_59 rfl ?_
                    refine v_getA hX eX7_project_60 fi_X7_10 ⟨by decide, rfl⟩ rfl ?_
                    refine v_iload_n hX eX7_project_63 rfl ?_
                    refine v_iload_n hX eX7_project_64 rfl ?_
                    refine v_iload_n hX eX7_project_65 rfl ?_
                    refine v_iload hX eX7_project_66 rfl ?_
                    refine v_iload hX eX7_project_68 rfl ?_
                    refine v_fnV hX eX7_project_70 lV_X7_51 ok_MX4_addProject ⟨by decide, rfl⟩ rfl ⟨rfl, Nat.le_of_ble_eq_true rfl⟩ (Nat.le_of_ble_eq_true rfl) (c_X4_addProject_N hI (Classical.byContradiction (fun z => bad ⟨by omega, by omega, by omega, by omega, by omega, fun _ => c54, by omega⟩))) rfl ?_
                    try simp only [Int.toNat_natCast, Int.toNat_zero, Int.reduceToNat]
                    exact v_ireturn hX hR eX7_project_73 rfl (hq)
                  · refine v_iconst hX eX7_project_57 ?_
                    exact v_ireturn hX hR eX7_project_58 rfl (hq)
          · refine v_iconst hX eX7_project_25 ?_
            exact v_ireturn hX hR eX7_project_26 rfl (hq)
set_option maxHeartbeats 2000000 in
set_option maxRecDepth 20000 in
theorem c_X7_wish {d : Nat} {h : Hp} {p q : Int} (hI : RI h) (hp : inN h p) (hq0 : inQ h q) (h6 : h (31 + p.toNat) q.toNat = 6) : Fn (d + 2) MX7_wish [mA 0, mI p, mI q] h (some (mI (h (23 + p.toNat) 2 + 1))) (addW h p.toNat q.toNat) := by
  intro Q hq X hX hR
  have hp8 := hp.lt hI
  have hq5 := hq0.lt hI
  show VW X 0 [some (mA 0), some (mI p), some (mI q), none] [] h
  refine v_aload_n hX eX7_wish_0 rfl ?_
  refine v_getA hX eX7_wish_1 fi_X7_10 ⟨by decide, rfl⟩ rfl ?_
  refine v_iload_n hX eX7_wish_4 rfl ?_
  refine v_fnV hX eX7_wish_5 lV_X7_55 ok_MX4_pupilOf ⟨by decide, rfl⟩ rfl ⟨rfl, Nat.le_of_ble_eq_true rfl⟩ (Nat.le_of_ble_eq_true rfl) (c_X4_pupilOf hI hp) rfl ?_
  try simp only [Int.toNat_natCast, Int.toNat_zero, Int.reduceToNat]
  refine v_astore_n hX eX7_wish_8 rfl rfl ?_
  refine v_aload_n hX eX7_wish_9 rfl ?_
  refine v_ifnull hX eX7_wish_10 ?_
  refine v_aload_n hX eX7_wish_13 rfl ?_
  refine v_getA hX eX7_wish_14 fi_X7_10 ⟨by decide, rfl⟩ rfl ?_
  refine v_iload_n hX eX7_wish_17 rfl ?_
  refine v_fnV hX eX7_wish_18 lV_X7_59 ok_MX4_isProject ⟨by decide, rfl⟩ rfl ⟨rfl, Nat.le_of_ble_eq_true rfl⟩ (Nat.le_of_ble_eq_true rfl) (c_X4_isProject hI ⟨by omega, by omega⟩) rfl ?_
  try simp only [Int.toNat_natCast, Int.toNat_zero, Int.reduceToNat]
  refine v_ifB_eq hX eX7_wish_21 (tgt := 32) rfl (fun c21 => False.elim (c21 hq0)) (fun c21 => ?_)
  refine v_aload_n hX eX7_wish_24 rfl ?_
  refine v_iload_n hX eX7_wish_25 rfl ?_
  refine v_fnV hX eX7_wish_26 lV_X7_62 ok_MX3_addWish (OB_pu (by omega)) rfl ⟨rfl, Nat.le_of_ble_eq_true rfl⟩ (Nat.le_of_ble_eq_true rfl) (c_X3_addWish hI (by omega) hq5 h6) rfl ?_
  try simp only [Int.toNat_natCast, Int.toNat_zero, Int.reduceToNat]
  refine v_if_ne hX eX7_wish_29 (tgt := 34) rfl ⟨by decide, by decide⟩ (fun _ => ?_) (fun c => absurd c (by decide))
  refine v_aload_n hX eX7_wish_34 rfl ?_
  refine v_getI hX eX7_wish_35 fi_X7_67 (OB_pu (by omega)) ?_
  exact v_ireturn hX hR eX7_wish_38 rfl (by rw [show addW h p.toNat q.toNat (23 + p.toNat) 2 = h (23 + p.toNat) 2 + 1 from by unfold addW; rw [up_ob (by omega), up_same]]; exact hq)
set_option maxHeartbeats 2000000 in
set_option maxRecDepth 20000 in
theorem c_X7_wish_N {d : Nat} {h : Hp} {p q : Int} (hI : RI h) (hrp : rng p) (hrq : rng q) (bad : ¬ (inN h p ∧ inQ h q ∧ h (31 + p.toNat) q.toNat = 6)) : Fn (d + 2) MX7_wish [mA 0, mI p, mI q] h (some (mI (-1))) h := by
  intro Q hq X hX hR
  show VW X 0 [some (mA 0), some (mI p), some (mI q), none] [] h
  by_cases hp : inN h p
  · have hp8 := hp.lt hI
    refine v_aload_n hX eX7_wish_0 rfl ?_
    refine v_getA hX eX7_wish_1 fi_X7_10 ⟨by decide, rfl⟩ rfl ?_
    refine v_iload_n hX eX7_wish_4 rfl ?_
    refine v_fnV hX eX7_wish_5 lV_X7_55 ok_MX4_pupilOf ⟨by decide, rfl⟩ rfl ⟨rfl, Nat.le_of_ble_eq_true rfl⟩ (Nat.le_of_ble_eq_true rfl) (c_X4_pupilOf hI hp) rfl ?_
    try simp only [Int.toNat_natCast, Int.toNat_zero, Int.reduceToNat]
    refine v_astore_n hX eX7_wish_8 rfl rfl ?_
    refine v_aload_n hX eX7_wish_9 rfl ?_
    refine v_ifnull hX eX7_wish_10 ?_
    refine v_aload_n hX eX7_wish_13 rfl ?_
    refine v_getA hX eX7_wish_14 fi_X7_10 ⟨by decide, rfl⟩ rfl ?_
    refine v_iload_n hX eX7_wish_17 rfl ?_
    refine v_fnV hX eX7_wish_18 lV_X7_59 ok_MX4_isProject ⟨by decide, rfl⟩ rfl ⟨rfl, Nat.le_of_ble_eq_true rfl⟩ (Nat.le_of_ble_eq_true rfl) (c_X4_isProject hI hrq) rfl ?_
    try simp only [Int.toNat_natCast, Int.toNat_zero, Int.reduceToNat]
    refine v_ifB_eq hX eX7_wish_21 (tgt := 32) rfl (fun c21 => ?_) (fun c21 => ?_)
    · refine v_iconst hX eX7_wish_32 ?_
      exact v_ireturn hX hR eX7_wish_33 rfl (hq)
    · refine v_aload_n hX eX7_wish_24 rfl ?_
      refine v_iload_n hX eX7_wish_25 rfl ?_
      refine v_fnV hX eX7_wish_26 lV_X7_62 ok_MX3_addWish (OB_pu (by omega)) rfl ⟨rfl, Nat.le_of_ble_eq_true rfl⟩ (Nat.le_of_ble_eq_true rfl) (c_X3_addWish_F hI (by omega) hrq (fun z => bad ⟨hp, c21, z.2.2⟩)) rfl ?_
      try simp only [Int.toNat_natCast, Int.toNat_zero, Int.reduceToNat]
      refine v_if_ne hX eX7_wish_29 (tgt := 34) rfl ⟨by decide, by decide⟩ (fun c => absurd rfl c) (fun _ => ?_)
      refine v_iconst hX eX7_wish_32 ?_
      exact v_ireturn hX hR eX7_wish_33 rfl (hq)
  · refine v_aload_n hX eX7_wish_0 rfl ?_
    refine v_getA hX eX7_wish_1 fi_X7_10 ⟨by decide, rfl⟩ rfl ?_
    refine v_iload_n hX eX7_wish_4 rfl ?_
    refine v_fnV hX eX7_wish_5 lV_X7_55 ok_MX4_pupilOf ⟨by decide, rfl⟩ rfl ⟨rfl, Nat.le_of_ble_eq_true rfl⟩ (Nat.le_of_ble_eq_true rfl) (c_X4_pupilOf_N hI hrp hp) rfl ?_
    try simp only [Int.toNat_natCast, Int.toNat_zero, Int.reduceToNat]
    refine v_astore_nN hX eX7_wish_8 rfl rfl ?_
    refine v_aload_nN hX eX7_wish_9 rfl ?_
    refine v_ifnullN hX eX7_wish_10 (tgt := 32) rfl ?_
    refine v_iconst hX eX7_wish_32 ?_
    exact v_ireturn hX hR eX7_wish_33 rfl (hq)
/-! friends, apart -/
def wbN (g i : Nat) (b : Int) : Nat := if b = 0 then g &&& (255 - 2 ^ i) else g ||| 2 ^ i
theorem wbN_lt {g i : Nat} {b : Int} (hg : g < 256) (hi : i < 8) : wbN g i b < 256 := by
  unfold wbN
  split
  · exact and_lt8 hg
  · exact put_lt hg hi
theorem wbN_bit {g i j : Nat} {b : Int} (hg : g < 256) (hi : i < 8) : (wbN g i b).testBit j = if j = i then decide (b ≠ 0) else g.testBit j := by
  unfold wbN
  split
  · rename_i hb
    rw [take_bit hg hi]
    by_cases e : j = i <;> simp [e, hb]
  · rename_i hb
    rw [put_bit]
    by_cases e : j = i <;> simp [e, hb]
set_option maxHeartbeats 2000000 in
set_option maxRecDepth 20000 in
theorem c_X7_withBit {d : Nat} {h : Hp} {g : Int} {i b : Int} (hg : 0 ≤ g ∧ g ≤ 255) (hi : 0 ≤ i ∧ i < 8) (hb : rng b) : Fn d MX7_withBit [mI g, mI i, mI b] h (some (mI (wbN g.toNat i.toNat b : Nat))) h := by
  intro Q hq X hX hR
  have e1 := wb_put (g := g.toNat) (i := i.toNat) (by omega) (by omega)
  have e2 := wb_take (g := g.toNat) (i := i.toNat) (by omega) (by omega)
  rw [← cast_toNat' hg.1, ← cast_toNat' hi.1] at e1 e2
  show VW X 0 [some (mI g), some (mI i), some (mI b)] [] h
  refine v_iload_n hX eX7_withBit_0 rfl ?_
  refine v_if_eq hX eX7_withBit_1 (tgt := 12) rfl ⟨by omega, by omega⟩ (fun c1 => ?_) (fun c1 => ?_)
  · refine v_iload_n hX eX7_withBit_12 rfl ?_
    refine v_iconst hX eX7_withBit_13 ?_
    refine v_iload_n hX eX7_withBit_14 rfl ?_
    refine v_ishl hX eX7_withBit_15 ?_
    refine v_iconst hX eX7_withBit_16 ?_
    refine v_ixor hX eX7_withBit_17 ?_
    refine v_iand hX eX7_withBit_18 ?_
    rw [e2]
    exact v_ireturn hX hR eX7_withBit_19 rfl (by rw [wbN, if_pos c1] at hq; exact hq)
  · refine v_iload_n hX eX7_withBit_4 rfl ?_
    refine v_iconst hX eX7_withBit_5 ?_
    refine v_iload_n hX eX7_withBit_6 rfl ?_
    refine v_ishl hX eX7_withBit_7 ?_
    refine v_ior hX eX7_withBit_8 ?_
    rw [e1]
    refine v_goto hX eX7_withBit_9 (tgt := 19) rfl ?_
    exact v_ireturn hX hR eX7_withBit_19 rfl (by rw [wbN, if_neg c1] at hq; exact hq)
/-- the bits of field s of two PUPILS are put -/
def pairB (h : Hp) (s a b : Nat) (x : Int) : Hp := up (up h (23 + a) s (wbN (h (23 + a) s).toNat b x : Nat)) (23 + b) s (wbN (h (23 + b) s).toNat a x : Nat)
set_option maxHeartbeats 2000000 in
set_option maxRecDepth 20000 in
theorem c_X7_friends {d : Nat} {h : Hp} {a b x : Int} (hI : RI h) (ha : inN h a) (hb : inN h b) (hab : a ≠ b) (hx : rng x) : Fn (d + 2) MX7_friends [mA 0, mI a, mI b, mI x] h (some (mI 1)) (pairB h 4 a.toNat b.toNat x) := by
  intro Q hq X hX hR
  have ha8 := ha.lt hI
  have hb8 := hb.lt hI
  have f1 := (hI.pu (p := a.toNat) (by omega)).2.2.2.1
  have f2 := (hI.pu (p := b.toNat) (by omega)).2.2.2.1
  show VW X 0 [some (mA 0), some (mI a), some (mI b), some (mI x), none, none] [] h
  refine v_aload_n hX eX7_friends_0 rfl ?_
  refine v_getA hX eX7_friends_1 fi_X7_10 ⟨by decide, rfl⟩ rfl ?_
  refine v_iload_n hX eX7_friends_4 rfl ?_
  refine v_fnV hX eX7_friends_5 lV_X7_55 ok_MX4_pupilOf ⟨by decide, rfl⟩ rfl ⟨rfl, Nat.le_of_ble_eq_true rfl⟩ (Nat.le_of_ble_eq_true rfl) (c_X4_pupilOf hI ha) rfl ?_
  try simp only [Int.toNat_natCast, Int.toNat_zero, Int.reduceToNat]
  refine v_astore hX eX7_friends_8 rfl rfl ?_
  refine v_aload_n hX eX7_friends_10 rfl ?_
  refine v_getA hX eX7_friends_11 fi_X7_10 ⟨by decide, rfl⟩ rfl ?_
  refine v_iload_n hX eX7_friends_14 rfl ?_
  refine v_fnV hX eX7_friends_15 lV_X7_55 ok_MX4_pupilOf ⟨by decide, rfl⟩ rfl ⟨rfl, Nat.le_of_ble_eq_true rfl⟩ (Nat.le_of_ble_eq_true rfl) (c_X4_pupilOf hI hb) rfl ?_
  try simp only [Int.toNat_natCast, Int.toNat_zero, Int.reduceToNat]
  refine v_astore hX eX7_friends_18 rfl rfl ?_
  refine v_aload hX eX7_friends_20 rfl ?_
  refine v_ifnull hX eX7_friends_22 ?_
  refine v_aload hX eX7_friends_25 rfl ?_
  refine v_ifnull hX eX7_friends_27 ?_
  refine v_iload_n hX eX7_friends_30 rfl ?_
  refine v_iload_n hX eX7_friends_31 rfl ?_
  refine v_icmp_ne hX eX7_friends_32 (tgt := 37) rfl ⟨by omega, by omega⟩ ⟨by omega, by omega⟩ (fun c32 => ?_) (fun c32 => False.elim (hab c32))
  refine v_aload hX eX7_friends_37 rfl ?_
  refine v_aload hX eX7_friends_39 rfl ?_
  refine v_getI hX eX7_friends_41 fi_X7_74 (OB_pu (by omega)) ?_
  refine v_iload_n hX eX7_friends_44 rfl ?_
  refine v_iload_n hX eX7_friends_45 rfl ?_
  refine v_fnS hX eX7_friends_46 lS_X7_77 ok_MX7_withBit ⟨rfl, Nat.le_of_ble_eq_true rfl⟩ (Nat.le_of_ble_eq_true rfl) (c_X7_withBit f1 hb8 hx) rfl ?_
  try simp only [Int.toNat_natCast, Int.toNat_zero, Int.reduceToNat]
  refine v_putI hX eX7_friends_49 fi_X7_74 (OB_pu (by omega)) ?_
  refine v_aload hX eX7_friends_52 rfl ?_
  refine v_aload hX eX7_friends_54 rfl ?_
  refine v_getI hX eX7_friends_56 fi_X7_74 (OB_pu (by omega)) ?_
  rw [up_ob (by omega)]
  refine v_iload_n hX eX7_friends_59 rfl ?_
  refine v_iload_n hX eX7_friends_60 rfl ?_
  refine v_fnS hX eX7_friends_61 lS_X7_77 ok_MX7_withBit ⟨rfl, Nat.le_of_ble_eq_true rfl⟩ (Nat.le_of_ble_eq_true rfl) (c_X7_withBit f2 ha8 hx) rfl ?_
  try simp only [Int.toNat_natCast, Int.toNat_zero, Int.reduceToNat]
  refine v_putI hX eX7_friends_64 fi_X7_74 (OB_pu (by omega)) ?_
  refine v_iconst hX eX7_friends_67 ?_
  exact v_zreturn hX hR eX7_friends_68 rfl (by omega) (hq)
set_option maxHeartbeats 2000000 in
set_option maxRecDepth 20000 in
theorem c_X7_friends_N {d : Nat} {h : Hp} {a b x : Int} (hI : RI h) (hra : rng a) (hrb : rng b) (bad : ¬ (inN h a ∧ inN h b ∧ a ≠ b)) : Fn (d + 2) MX7_friends [mA 0, mI a, mI b, mI x] h (some (mI 0)) h := by
  intro Q hq X hX hR
  show VW X 0 [some (mA 0), some (mI a), some (mI b), some (mI x), none, none] [] h
  by_cases ha : inN h a
  · by_cases hb : inN h b
    · refine v_aload_n hX eX7_friends_0 rfl ?_
      refine v_getA hX eX7_friends_1 fi_X7_10 ⟨by decide, rfl⟩ rfl ?_
      refine v_iload_n hX eX7_friends_4 rfl ?_
      refine v_fnV hX eX7_friends_5 lV_X7_55 ok_MX4_pupilOf ⟨by decide, rfl⟩ rfl ⟨rfl, Nat.le_of_ble_eq_true rfl⟩ (Nat.le_of_ble_eq_true rfl) (c_X4_pupilOf hI ha) rfl ?_
      try simp only [Int.toNat_natCast, Int.toNat_zero, Int.reduceToNat]
      refine v_astore hX eX7_friends_8 rfl rfl ?_
      refine v_aload_n hX eX7_friends_10 rfl ?_
      refine v_getA hX eX7_friends_11 fi_X7_10 ⟨by decide, rfl⟩ rfl ?_
      refine v_iload_n hX eX7_friends_14 rfl ?_
      refine v_fnV hX eX7_friends_15 lV_X7_55 ok_MX4_pupilOf ⟨by decide, rfl⟩ rfl ⟨rfl, Nat.le_of_ble_eq_true rfl⟩ (Nat.le_of_ble_eq_true rfl) (c_X4_pupilOf hI hb) rfl ?_
      try simp only [Int.toNat_natCast, Int.toNat_zero, Int.reduceToNat]
      refine v_astore hX eX7_friends_18 rfl rfl ?_
      refine v_aload hX eX7_friends_20 rfl ?_
      refine v_ifnull hX eX7_friends_22 ?_
      refine v_aload hX eX7_friends_25 rfl ?_
      refine v_ifnull hX eX7_friends_27 ?_
      refine v_iload_n hX eX7_friends_30 rfl ?_
      refine v_iload_n hX eX7_friends_31 rfl ?_
      refine v_icmp_ne hX eX7_friends_32 (tgt := 37) rfl ⟨by omega, by omega⟩ ⟨by omega, by omega⟩ (fun c32 => False.elim (bad ⟨ha, hb, c32⟩)) (fun c32 => ?_)
      refine v_iconst hX eX7_friends_35 ?_
      exact v_zreturn hX hR eX7_friends_36 rfl (by omega) (hq)
    · refine v_aload_n hX eX7_friends_0 rfl ?_
      refine v_getA hX eX7_friends_1 fi_X7_10 ⟨by decide, rfl⟩ rfl ?_
      refine v_iload_n hX eX7_friends_4 rfl ?_
      refine v_fnV hX eX7_friends_5 lV_X7_55 ok_MX4_pupilOf ⟨by decide, rfl⟩ rfl ⟨rfl, Nat.le_of_ble_eq_true rfl⟩ (Nat.le_of_ble_eq_true rfl) (c_X4_pupilOf hI ha) rfl ?_
      try simp only [Int.toNat_natCast, Int.toNat_zero, Int.reduceToNat]
      refine v_astore hX eX7_friends_8 rfl rfl ?_
      refine v_aload_n hX eX7_friends_10 rfl ?_
      refine v_getA hX eX7_friends_11 fi_X7_10 ⟨by decide, rfl⟩ rfl ?_
      refine v_iload_n hX eX7_friends_14 rfl ?_
      refine v_fnV hX eX7_friends_15 lV_X7_55 ok_MX4_pupilOf ⟨by decide, rfl⟩ rfl ⟨rfl, Nat.le_of_ble_eq_true rfl⟩ (Nat.le_of_ble_eq_true rfl) (c_X4_pupilOf_N hI hrb hb) rfl ?_
      try simp only [Int.toNat_natCast, Int.toNat_zero, Int.reduceToNat]
      refine v_astoreN hX eX7_friends_18 rfl rfl ?_
      refine v_aload hX eX7_friends_20 rfl ?_
      refine v_ifnull hX eX7_friends_22 ?_
      refine v_aloadN hX eX7_friends_25 rfl ?_
      refine v_ifnullN hX eX7_friends_27 (tgt := 35) rfl ?_
      refine v_iconst hX eX7_friends_35 ?_
      exact v_zreturn hX hR eX7_friends_36 rfl (by omega) (hq)
  · by_cases hb : inN h b
    · refine v_aload_n hX eX7_friends_0 rfl ?_
      refine v_getA hX eX7_friends_1 fi_X7_10 ⟨by decide, rfl⟩ rfl ?_
      refine v_iload_n hX eX7_friends_4 rfl ?_
      refine v_fnV hX eX7_friends_5 lV_X7_55 ok_MX4_pupilOf ⟨by decide, rfl⟩ rfl ⟨rfl, Nat.le_of_ble_eq_true rfl⟩ (Nat.le_of_ble_eq_true rfl) (c_X4_pupilOf_N hI hra ha) rfl ?_
      try simp only [Int.toNat_natCast, Int.toNat_zero, Int.reduceToNat]
      refine v_astoreN hX eX7_friends_8 rfl rfl ?_
      refine v_aload_n hX eX7_friends_10 rfl ?_
      refine v_getA hX eX7_friends_11 fi_X7_10 ⟨by decide, rfl⟩ rfl ?_
      refine v_iload_n hX eX7_friends_14 rfl ?_
      refine v_fnV hX eX7_friends_15 lV_X7_55 ok_MX4_pupilOf ⟨by decide, rfl⟩ rfl ⟨rfl, Nat.le_of_ble_eq_true rfl⟩ (Nat.le_of_ble_eq_true rfl) (c_X4_pupilOf hI hb) rfl ?_
      try simp only [Int.toNat_natCast, Int.toNat_zero, Int.reduceToNat]
      refine v_astore hX eX7_friends_18 rfl rfl ?_
      refine v_aloadN hX eX7_friends_20 rfl ?_
      refine v_ifnullN hX eX7_friends_22 (tgt := 35) rfl ?_
      refine v_iconst hX eX7_friends_35 ?_
      exact v_zreturn hX hR eX7_friends_36 rfl (by omega) (hq)
    · refine v_aload_n hX eX7_friends_0 rfl ?_
      refine v_getA hX eX7_friends_1 fi_X7_10 ⟨by decide, rfl⟩ rfl ?_
      refine v_iload_n hX eX7_friends_4 rfl ?_
      refine v_fnV hX eX7_friends_5 lV_X7_55 ok_MX4_pupilOf ⟨by decide, rfl⟩ rfl ⟨rfl, Nat.le_of_ble_eq_true rfl⟩ (Nat.le_of_ble_eq_true rfl) (c_X4_pupilOf_N hI hra ha) rfl ?_
      try simp only [Int.toNat_natCast, Int.toNat_zero, Int.reduceToNat]
      refine v_astoreN hX eX7_friends_8 rfl rfl ?_
      refine v_aload_n hX eX7_friends_10 rfl ?_
      refine v_getA hX eX7_friends_11 fi_X7_10 ⟨by decide, rfl⟩ rfl ?_
      refine v_iload_n hX eX7_friends_14 rfl ?_
      refine v_fnV hX eX7_friends_15 lV_X7_55 ok_MX4_pupilOf ⟨by decide, rfl⟩ rfl ⟨rfl, Nat.le_of_ble_eq_true rfl⟩ (Nat.le_of_ble_eq_true rfl) (c_X4_pupilOf_N hI hrb hb) rfl ?_
      try simp only [Int.toNat_natCast, Int.toNat_zero, Int.reduceToNat]
      refine v_astoreN hX eX7_friends_18 rfl rfl ?_
      refine v_aloadN hX eX7_friends_20 rfl ?_
      refine v_ifnullN hX eX7_friends_22 (tgt := 35) rfl ?_
      refine v_iconst hX eX7_friends_35 ?_
      exact v_zreturn hX hR eX7_friends_36 rfl (by omega) (hq)
set_option maxHeartbeats 2000000 in
set_option maxRecDepth 20000 in
theorem c_X7_apart {d : Nat} {h : Hp} {a b x : Int} (hI : RI h) (ha : inN h a) (hb : inN h b) (hab : a ≠ b) (hx : rng x) : Fn (d + 2) MX7_apart [mA 0, mI a, mI b, mI x] h (some (mI 1)) (pairB h 5 a.toNat b.toNat x) := by
  intro Q hq X hX hR
  have ha8 := ha.lt hI
  have hb8 := hb.lt hI
  have f1 := (hI.pu (p := a.toNat) (by omega)).2.2.2.2.1
  have f2 := (hI.pu (p := b.toNat) (by omega)).2.2.2.2.1
  show VW X 0 [some (mA 0), some (mI a), some (mI b), some (mI x), none, none] [] h
  refine v_aload_n hX eX7_apart_0 rfl ?_
  refine v_getA hX eX7_apart_1 fi_X7_10 ⟨by decide, rfl⟩ rfl ?_
  refine v_iload_n hX eX7_apart_4 rfl ?_
  refine v_fnV hX eX7_apart_5 lV_X7_55 ok_MX4_pupilOf ⟨by decide, rfl⟩ rfl ⟨rfl, Nat.le_of_ble_eq_true rfl⟩ (Nat.le_of_ble_eq_true rfl) (c_X4_pupilOf hI ha) rfl ?_
  try simp only [Int.toNat_natCast, Int.toNat_zero, Int.reduceToNat]
  refine v_astore hX eX7_apart_8 rfl rfl ?_
  refine v_aload_n hX eX7_apart_10 rfl ?_
  refine v_getA hX eX7_apart_11 fi_X7_10 ⟨by decide, rfl⟩ rfl ?_
  refine v_iload_n hX eX7_apart_14 rfl ?_
  refine v_fnV hX eX7_apart_15 lV_X7_55 ok_MX4_pupilOf ⟨by decide, rfl⟩ rfl ⟨rfl, Nat.le_of_ble_eq_true rfl⟩ (Nat.le_of_ble_eq_true rfl) (c_X4_pupilOf hI hb) rfl ?_
  try simp only [Int.toNat_natCast, Int.toNat_zero, Int.reduceToNat]
  refine v_astore hX eX7_apart_18 rfl rfl ?_
  refine v_aload hX eX7_apart_20 rfl ?_
  refine v_ifnull hX eX7_apart_22 ?_
  refine v_aload hX eX7_apart_25 rfl ?_
  refine v_ifnull hX eX7_apart_27 ?_
  refine v_iload_n hX eX7_apart_30 rfl ?_
  refine v_iload_n hX eX7_apart_31 rfl ?_
  refine v_icmp_ne hX eX7_apart_32 (tgt := 37) rfl ⟨by omega, by omega⟩ ⟨by omega, by omega⟩ (fun c32 => ?_) (fun c32 => False.elim (hab c32))
  refine v_aload hX eX7_apart_37 rfl ?_
  refine v_aload hX eX7_apart_39 rfl ?_
  refine v_getI hX eX7_apart_41 fi_X7_81 (OB_pu (by omega)) ?_
  refine v_iload_n hX eX7_apart_44 rfl ?_
  refine v_iload_n hX eX7_apart_45 rfl ?_
  refine v_fnS hX eX7_apart_46 lS_X7_77 ok_MX7_withBit ⟨rfl, Nat.le_of_ble_eq_true rfl⟩ (Nat.le_of_ble_eq_true rfl) (c_X7_withBit f1 hb8 hx) rfl ?_
  try simp only [Int.toNat_natCast, Int.toNat_zero, Int.reduceToNat]
  refine v_putI hX eX7_apart_49 fi_X7_81 (OB_pu (by omega)) ?_
  refine v_aload hX eX7_apart_52 rfl ?_
  refine v_aload hX eX7_apart_54 rfl ?_
  refine v_getI hX eX7_apart_56 fi_X7_81 (OB_pu (by omega)) ?_
  rw [up_ob (by omega)]
  refine v_iload_n hX eX7_apart_59 rfl ?_
  refine v_iload_n hX eX7_apart_60 rfl ?_
  refine v_fnS hX eX7_apart_61 lS_X7_77 ok_MX7_withBit ⟨rfl, Nat.le_of_ble_eq_true rfl⟩ (Nat.le_of_ble_eq_true rfl) (c_X7_withBit f2 ha8 hx) rfl ?_
  try simp only [Int.toNat_natCast, Int.toNat_zero, Int.reduceToNat]
  refine v_putI hX eX7_apart_64 fi_X7_81 (OB_pu (by omega)) ?_
  refine v_iconst hX eX7_apart_67 ?_
  exact v_zreturn hX hR eX7_apart_68 rfl (by omega) (hq)
set_option maxHeartbeats 2000000 in
set_option maxRecDepth 20000 in
theorem c_X7_apart_N {d : Nat} {h : Hp} {a b x : Int} (hI : RI h) (hra : rng a) (hrb : rng b) (bad : ¬ (inN h a ∧ inN h b ∧ a ≠ b)) : Fn (d + 2) MX7_apart [mA 0, mI a, mI b, mI x] h (some (mI 0)) h := by
  intro Q hq X hX hR
  show VW X 0 [some (mA 0), some (mI a), some (mI b), some (mI x), none, none] [] h
  by_cases ha : inN h a
  · by_cases hb : inN h b
    · refine v_aload_n hX eX7_apart_0 rfl ?_
      refine v_getA hX eX7_apart_1 fi_X7_10 ⟨by decide, rfl⟩ rfl ?_
      refine v_iload_n hX eX7_apart_4 rfl ?_
      refine v_fnV hX eX7_apart_5 lV_X7_55 ok_MX4_pupilOf ⟨by decide, rfl⟩ rfl ⟨rfl, Nat.le_of_ble_eq_true rfl⟩ (Nat.le_of_ble_eq_true rfl) (c_X4_pupilOf hI ha) rfl ?_
      try simp only [Int.toNat_natCast, Int.toNat_zero, Int.reduceToNat]
      refine v_astore hX eX7_apart_8 rfl rfl ?_
      refine v_aload_n hX eX7_apart_10 rfl ?_
      refine v_getA hX eX7_apart_11 fi_X7_10 ⟨by decide, rfl⟩ rfl ?_
      refine v_iload_n hX eX7_apart_14 rfl ?_
      refine v_fnV hX eX7_apart_15 lV_X7_55 ok_MX4_pupilOf ⟨by decide, rfl⟩ rfl ⟨rfl, Nat.le_of_ble_eq_true rfl⟩ (Nat.le_of_ble_eq_true rfl) (c_X4_pupilOf hI hb) rfl ?_
      try simp only [Int.toNat_natCast, Int.toNat_zero, Int.reduceToNat]
      refine v_astore hX eX7_apart_18 rfl rfl ?_
      refine v_aload hX eX7_apart_20 rfl ?_
      refine v_ifnull hX eX7_apart_22 ?_
      refine v_aload hX eX7_apart_25 rfl ?_
      refine v_ifnull hX eX7_apart_27 ?_
      refine v_iload_n hX eX7_apart_30 rfl ?_
      refine v_iload_n hX eX7_apart_31 rfl ?_
      refine v_icmp_ne hX eX7_apart_32 (tgt := 37) rfl ⟨by omega, by omega⟩ ⟨by omega, by omega⟩ (fun c32 => False.elim (bad ⟨ha, hb, c32⟩)) (fun c32 => ?_)
      refine v_iconst hX eX7_apart_35 ?_
      exact v_zreturn hX hR eX7_apart_36 rfl (by omega) (hq)
    · refine v_aload_n hX eX7_apart_0 rfl ?_
      refine v_getA hX eX7_apart_1 fi_X7_10 ⟨by decide, rfl⟩ rfl ?_
      refine v_iload_n hX eX7_apart_4 rfl ?_
      refine v_fnV hX eX7_apart_5 lV_X7_55 ok_MX4_pupilOf ⟨by decide, rfl⟩ rfl ⟨rfl, Nat.le_of_ble_eq_true rfl⟩ (Nat.le_of_ble_eq_true rfl) (c_X4_pupilOf hI ha) rfl ?_
      try simp only [Int.toNat_natCast, Int.toNat_zero, Int.reduceToNat]
      refine v_astore hX eX7_apart_8 rfl rfl ?_
      refine v_aload_n hX eX7_apart_10 rfl ?_
      refine v_getA hX eX7_apart_11 fi_X7_10 ⟨by decide, rfl⟩ rfl ?_
      refine v_iload_n hX eX7_apart_14 rfl ?_
      refine v_fnV hX eX7_apart_15 lV_X7_55 ok_MX4_pupilOf ⟨by decide, rfl⟩ rfl ⟨rfl, Nat.le_of_ble_eq_true rfl⟩ (Nat.le_of_ble_eq_true rfl) (c_X4_pupilOf_N hI hrb hb) rfl ?_
      try simp only [Int.toNat_natCast, Int.toNat_zero, Int.reduceToNat]
      refine v_astoreN hX eX7_apart_18 rfl rfl ?_
      refine v_aload hX eX7_apart_20 rfl ?_
      refine v_ifnull hX eX7_apart_22 ?_
      refine v_aloadN hX eX7_apart_25 rfl ?_
      refine v_ifnullN hX eX7_apart_27 (tgt := 35) rfl ?_
      refine v_iconst hX eX7_apart_35 ?_
      exact v_zreturn hX hR eX7_apart_36 rfl (by omega) (hq)
  · by_cases hb : inN h b
    · refine v_aload_n hX eX7_apart_0 rfl ?_
      refine v_getA hX eX7_apart_1 fi_X7_10 ⟨by decide, rfl⟩ rfl ?_
      refine v_iload_n hX eX7_apart_4 rfl ?_
      refine v_fnV hX eX7_apart_5 lV_X7_55 ok_MX4_pupilOf ⟨by decide, rfl⟩ rfl ⟨rfl, Nat.le_of_ble_eq_true rfl⟩ (Nat.le_of_ble_eq_true rfl) (c_X4_pupilOf_N hI hra ha) rfl ?_
      try simp only [Int.toNat_natCast, Int.toNat_zero, Int.reduceToNat]
      refine v_astoreN hX eX7_apart_8 rfl rfl ?_
      refine v_aload_n hX eX7_apart_10 rfl ?_
      refine v_getA hX eX7_apart_11 fi_X7_10 ⟨by decide, rfl⟩ rfl ?_
      refine v_iload_n hX eX7_apart_14 rfl ?_
      refine v_fnV hX eX7_apart_15 lV_X7_55 ok_MX4_pupilOf ⟨by decide, rfl⟩ rfl ⟨rfl, Nat.le_of_ble_eq_true rfl⟩ (Nat.le_of_ble_eq_true rfl) (c_X4_pupilOf hI hb) rfl ?_
      try simp only [Int.toNat_natCast, Int.toNat_zero, Int.reduceToNat]
      refine v_astore hX eX7_apart_18 rfl rfl ?_
      refine v_aloadN hX eX7_apart_20 rfl ?_
      refine v_ifnullN hX eX7_apart_22 (tgt := 35) rfl ?_
      refine v_iconst hX eX7_apart_35 ?_
      exact v_zreturn hX hR eX7_apart_36 rfl (by omega) (hq)
    · refine v_aload_n hX eX7_apart_0 rfl ?_
      refine v_getA hX eX7_apart_1 fi_X7_10 ⟨by decide, rfl⟩ rfl ?_
      refine v_iload_n hX eX7_apart_4 rfl ?_
      refine v_fnV hX eX7_apart_5 lV_X7_55 ok_MX4_pupilOf ⟨by decide, rfl⟩ rfl ⟨rfl, Nat.le_of_ble_eq_true rfl⟩ (Nat.le_of_ble_eq_true rfl) (c_X4_pupilOf_N hI hra ha) rfl ?_
      try simp only [Int.toNat_natCast, Int.toNat_zero, Int.reduceToNat]
      refine v_astoreN hX eX7_apart_8 rfl rfl ?_
      refine v_aload_n hX eX7_apart_10 rfl ?_
      refine v_getA hX eX7_apart_11 fi_X7_10 ⟨by decide, rfl⟩ rfl ?_
      refine v_iload_n hX eX7_apart_14 rfl ?_
      refine v_fnV hX eX7_apart_15 lV_X7_55 ok_MX4_pupilOf ⟨by decide, rfl⟩ rfl ⟨rfl, Nat.le_of_ble_eq_true rfl⟩ (Nat.le_of_ble_eq_true rfl) (c_X4_pupilOf_N hI hrb hb) rfl ?_
      try simp only [Int.toNat_natCast, Int.toNat_zero, Int.reduceToNat]
      refine v_astoreN hX eX7_apart_18 rfl rfl ?_
      refine v_aloadN hX eX7_apart_20 rfl ?_
      refine v_ifnullN hX eX7_apart_22 (tgt := 35) rfl ?_
      refine v_iconst hX eX7_apart_35 ?_
      exact v_zreturn hX hR eX7_apart_36 rfl (by omega) (hq)
set_option maxHeartbeats 2000000 in
set_option maxRecDepth 20000 in
theorem c_X7_here {d : Nat} {h : Hp} {a x : Int} (hI : RI h) (ha : inN h a) (hx : x = 0 ∨ x = 1) : Fn (d + 2) MX7_here [mA 0, mI a, mI x] h (some (mI 1)) (up h (23 + a.toNat) 6 x) := by
  intro Q hq X hX hR
  have ha8 := ha.lt hI
  show VW X 0 [some (mA 0), some (mI a), some (mI x), none] [] h
  refine v_aload_n hX eX7_here_0 rfl ?_
  refine v_getA hX eX7_here_1 fi_X7_10 ⟨by decide, rfl⟩ rfl ?_
  refine v_iload_n hX eX7_here_4 rfl ?_
  refine v_fnV hX eX7_here_5 lV_X7_55 ok_MX4_pupilOf ⟨by decide, rfl⟩ rfl ⟨rfl, Nat.le_of_ble_eq_true rfl⟩ (Nat.le_of_ble_eq_true rfl) (c_X4_pupilOf hI ha) rfl ?_
  try simp only [Int.toNat_natCast, Int.toNat_zero, Int.reduceToNat]
  refine v_astore_n hX eX7_here_8 rfl rfl ?_
  refine v_aload_n hX eX7_here_9 rfl ?_
  refine v_ifnonnull hX eX7_here_10 (tgt := 15) rfl ?_
  refine v_aload_n hX eX7_here_15 rfl ?_
  refine v_iload_n hX eX7_here_16 rfl ?_
  refine v_putZ hX eX7_here_17 fi_X7_84 (OB_pu (by omega)) (by omega) ?_
  refine v_iconst hX eX7_here_20 ?_
  exact v_zreturn hX hR eX7_here_21 rfl (by omega) (hq)
set_option maxHeartbeats 2000000 in
set_option maxRecDepth 20000 in
theorem c_X7_here_N {d : Nat} {h : Hp} {a x : Int} (hI : RI h) (hr : rng a) (ha : ¬ inN h a) : Fn (d + 2) MX7_here [mA 0, mI a, mI x] h (some (mI 0)) h := by
  intro Q hq X hX hR
  show VW X 0 [some (mA 0), some (mI a), some (mI x), none] [] h
  refine v_aload_n hX eX7_here_0 rfl ?_
  refine v_getA hX eX7_here_1 fi_X7_10 ⟨by decide, rfl⟩ rfl ?_
  refine v_iload_n hX eX7_here_4 rfl ?_
  refine v_fnV hX eX7_here_5 lV_X7_55 ok_MX4_pupilOf ⟨by decide, rfl⟩ rfl ⟨rfl, Nat.le_of_ble_eq_true rfl⟩ (Nat.le_of_ble_eq_true rfl) (c_X4_pupilOf_N hI hr ha) rfl ?_
  try simp only [Int.toNat_natCast, Int.toNat_zero, Int.reduceToNat]
  refine v_astore_nN hX eX7_here_8 rfl rfl ?_
  refine v_aload_nN hX eX7_here_9 rfl ?_
  refine v_ifnonnullN hX eX7_here_10 ?_
  refine v_iconst hX eX7_here_13 ?_
  exact v_zreturn hX hR eX7_here_14 rfl (by omega) (hq)
set_option maxHeartbeats 2000000 in
set_option maxRecDepth 20000 in
theorem c_X7_offered {d : Nat} {h : Hp} {a x : Int} (hI : RI h) (ha : inQ h a) (hx : x = 0 ∨ x = 1) : Fn (d + 2) MX7_offered [mA 0, mI a, mI x] h (some (mI 1)) (up h (39 + a.toNat) 5 x) := by
  intro Q hq X hX hR
  have ha8 := ha.lt hI
  show VW X 0 [some (mA 0), some (mI a), some (mI x), none] [] h
  refine v_aload_n hX eX7_offered_0 rfl ?_
  refine v_getA hX eX7_offered_1 fi_X7_10 ⟨by decide, rfl⟩ rfl ?_
  refine v_iload_n hX eX7_offered_4 rfl ?_
  refine v_fnV hX eX7_offered_5 lV_X7_88 ok_MX4_projectOf ⟨by decide, rfl⟩ rfl ⟨rfl, Nat.le_of_ble_eq_true rfl⟩ (Nat.le_of_ble_eq_true rfl) (c_X4_projectOf hI ha) rfl ?_
  try simp only [Int.toNat_natCast, Int.toNat_zero, Int.reduceToNat]
  refine v_astore_n hX eX7_offered_8 rfl rfl ?_
  refine v_aload_n hX eX7_offered_9 rfl ?_
  refine v_ifnonnull hX eX7_offered_10 (tgt := 15) rfl ?_
  refine v_aload_n hX eX7_offered_15 rfl ?_
  refine v_iload_n hX eX7_offered_16 rfl ?_
  refine v_putZ hX eX7_offered_17 fi_X7_92 (OB_pr (by omega)) (by omega) ?_
  refine v_iconst hX eX7_offered_20 ?_
  exact v_zreturn hX hR eX7_offered_21 rfl (by omega) (hq)
set_option maxHeartbeats 2000000 in
set_option maxRecDepth 20000 in
theorem c_X7_offered_N {d : Nat} {h : Hp} {a x : Int} (hI : RI h) (hr : rng a) (ha : ¬ inQ h a) : Fn (d + 2) MX7_offered [mA 0, mI a, mI x] h (some (mI 0)) h := by
  intro Q hq X hX hR
  show VW X 0 [some (mA 0), some (mI a), some (mI x), none] [] h
  refine v_aload_n hX eX7_offered_0 rfl ?_
  refine v_getA hX eX7_offered_1 fi_X7_10 ⟨by decide, rfl⟩ rfl ?_
  refine v_iload_n hX eX7_offered_4 rfl ?_
  refine v_fnV hX eX7_offered_5 lV_X7_88 ok_MX4_projectOf ⟨by decide, rfl⟩ rfl ⟨rfl, Nat.le_of_ble_eq_true rfl⟩ (Nat.le_of_ble_eq_true rfl) (c_X4_projectOf_N hI hr ha) rfl ?_
  try simp only [Int.toNat_natCast, Int.toNat_zero, Int.reduceToNat]
  refine v_astore_nN hX eX7_offered_8 rfl rfl ?_
  refine v_aload_nN hX eX7_offered_9 rfl ?_
  refine v_ifnonnullN hX eX7_offered_10 ?_
  refine v_iconst hX eX7_offered_13 ?_
  exact v_zreturn hX hR eX7_offered_14 rfl (by omega) (hq)
set_option maxHeartbeats 2000000 in
set_option maxRecDepth 20000 in
theorem c_X7_rank {d : Nat} {h : Hp} {p q : Int} (hI : RI h) (hp : inN h p) (hq0 : inQ h q) : Fn (d + 2) MX7_rank [mA 0, mI p, mI q] h (some (mI (h (31 + p.toNat) q.toNat))) h := by
  intro Q hq X hX hR
  have hp8 := hp.lt hI
  have hq5 := hq0.lt hI
  show VW X 0 [some (mA 0), some (mI p), some (mI q), none] [] h
  refine v_aload_n hX eX7_rank_0 rfl ?_
  refine v_getA hX eX7_rank_1 fi_X7_10 ⟨by decide, rfl⟩ rfl ?_
  refine v_iload_n hX eX7_rank_4 rfl ?_
  refine v_fnV hX eX7_rank_5 lV_X7_55 ok_MX4_pupilOf ⟨by decide, rfl⟩ rfl ⟨rfl, Nat.le_of_ble_eq_true rfl⟩ (Nat.le_of_ble_eq_true rfl) (c_X4_pupilOf hI hp) rfl ?_
  try simp only [Int.toNat_natCast, Int.toNat_zero, Int.reduceToNat]
  refine v_astore_n hX eX7_rank_8 rfl rfl ?_
  refine v_aload_n hX eX7_rank_9 rfl ?_
  refine v_ifnull hX eX7_rank_10 ?_
  refine v_aload_n hX eX7_rank_13 rfl ?_
  refine v_getA hX eX7_rank_14 fi_X7_10 ⟨by decide, rfl⟩ rfl ?_
  refine v_iload_n hX eX7_rank_17 rfl ?_
  refine v_fnV hX eX7_rank_18 lV_X7_59 ok_MX4_isProject ⟨by decide, rfl⟩ rfl ⟨rfl, Nat.le_of_ble_eq_true rfl⟩ (Nat.le_of_ble_eq_true rfl) (c_X4_isProject hI ⟨by omega, by omega⟩) rfl ?_
  try simp only [Int.toNat_natCast, Int.toNat_zero, Int.reduceToNat]
  refine v_ifB_ne hX eX7_rank_21 (tgt := 28) rfl (fun c21 => ?_) (fun c21 => False.elim (c21 hq0))
  refine v_aload_n hX eX7_rank_28 rfl ?_
  refine v_iload_n hX eX7_rank_29 rfl ?_
  refine v_fnV hX eX7_rank_30 lV_X7_134 ok_MX3_rankIn (OB_pu (by omega)) rfl ⟨rfl, Nat.le_of_ble_eq_true rfl⟩ (Nat.le_of_ble_eq_true rfl) (c_X3_rankIn (by omega) ⟨by omega, by omega⟩) rfl ?_
  try simp only [Int.toNat_natCast, Int.toNat_zero, Int.reduceToNat]
  exact v_ireturn hX hR eX7_rank_33 rfl (q_i (by rw [rkI, if_pos hq5]) hq)
set_option maxHeartbeats 2000000 in
set_option maxRecDepth 20000 in
theorem c_X7_rank_N {d : Nat} {h : Hp} {p q : Int} (hI : RI h) (hrp : rng p) (hrq : rng q) (bad : ¬ (inN h p ∧ inQ h q)) : Fn (d + 2) MX7_rank [mA 0, mI p, mI q] h (some (mI (-1))) h := by
  intro Q hq X hX hR
  show VW X 0 [some (mA 0), some (mI p), some (mI q), none] [] h
  by_cases hp : inN h p
  · refine v_aload_n hX eX7_rank_0 rfl ?_
    refine v_getA hX eX7_rank_1 fi_X7_10 ⟨by decide, rfl⟩ rfl ?_
    refine v_iload_n hX eX7_rank_4 rfl ?_
    refine v_fnV hX eX7_rank_5 lV_X7_55 ok_MX4_pupilOf ⟨by decide, rfl⟩ rfl ⟨rfl, Nat.le_of_ble_eq_true rfl⟩ (Nat.le_of_ble_eq_true rfl) (c_X4_pupilOf hI hp) rfl ?_
    try simp only [Int.toNat_natCast, Int.toNat_zero, Int.reduceToNat]
    refine v_astore_n hX eX7_rank_8 rfl rfl ?_
    refine v_aload_n hX eX7_rank_9 rfl ?_
    refine v_ifnull hX eX7_rank_10 ?_
    refine v_aload_n hX eX7_rank_13 rfl ?_
    refine v_getA hX eX7_rank_14 fi_X7_10 ⟨by decide, rfl⟩ rfl ?_
    refine v_iload_n hX eX7_rank_17 rfl ?_
    refine v_fnV hX eX7_rank_18 lV_X7_59 ok_MX4_isProject ⟨by decide, rfl⟩ rfl ⟨rfl, Nat.le_of_ble_eq_true rfl⟩ (Nat.le_of_ble_eq_true rfl) (c_X4_isProject hI hrq) rfl ?_
    try simp only [Int.toNat_natCast, Int.toNat_zero, Int.reduceToNat]
    refine v_ifB_ne hX eX7_rank_21 (tgt := 28) rfl (fun c21 => False.elim (bad ⟨hp, c21⟩)) (fun c21 => ?_)
    refine v_iconst hX eX7_rank_24 ?_
    refine v_goto hX eX7_rank_25 (tgt := 33) rfl ?_
    exact v_ireturn hX hR eX7_rank_33 rfl (hq)
  · refine v_aload_n hX eX7_rank_0 rfl ?_
    refine v_getA hX eX7_rank_1 fi_X7_10 ⟨by decide, rfl⟩ rfl ?_
    refine v_iload_n hX eX7_rank_4 rfl ?_
    refine v_fnV hX eX7_rank_5 lV_X7_55 ok_MX4_pupilOf ⟨by decide, rfl⟩ rfl ⟨rfl, Nat.le_of_ble_eq_true rfl⟩ (Nat.le_of_ble_eq_true rfl) (c_X4_pupilOf_N hI hrp hp) rfl ?_
    try simp only [Int.toNat_natCast, Int.toNat_zero, Int.reduceToNat]
    refine v_astore_nN hX eX7_rank_8 rfl rfl ?_
    refine v_aload_nN hX eX7_rank_9 rfl ?_
    refine v_ifnullN hX eX7_rank_10 (tgt := 24) rfl ?_
    refine v_iconst hX eX7_rank_24 ?_
    refine v_goto hX eX7_rank_25 (tgt := 33) rfl ?_
    exact v_ireturn hX hR eX7_rank_33 rfl (hq)
set_option maxHeartbeats 2000000 in
set_option maxRecDepth 20000 in
theorem c_X7_put {d : Nat} {h : Hp} {p q : Int} (hI : RI h) (hp : inN h p) (hrq : rng q) (hq0 : q = -1 ∨ inQ h q) : Fn (d + 1) MX7_put [mA 0, mI p, mI q] h (some (mI 1)) (up h 4 p.toNat q) := by
  intro Q hq X hX hR
  have hp8 := hp.lt hI
  show VW X 0 [some (mA 0), some (mI p), some (mI q)] [] h
  refine v_aload_n hX eX7_put_0 rfl ?_
  refine v_getA hX eX7_put_1 fi_X7_10 ⟨by decide, rfl⟩ rfl ?_
  refine v_iload_n hX eX7_put_4 rfl ?_
  refine v_fnV hX eX7_put_5 lV_X7_47 ok_MX4_isPupil ⟨by decide, rfl⟩ rfl ⟨rfl, Nat.le_of_ble_eq_true rfl⟩ (Nat.le_of_ble_eq_true rfl) (c_X4_isPupil hI ⟨by omega, by omega⟩) rfl ?_
  try simp only [Int.toNat_natCast, Int.toNat_zero, Int.reduceToNat]
  refine v_ifB_eq hX eX7_put_8 (tgt := 27) rfl (fun c8 => False.elim (c8 hp)) (fun c8 => ?_)
  refine v_iload_n hX eX7_put_11 rfl ?_
  refine v_iconst hX eX7_put_12 ?_
  refine v_icmp_eq hX eX7_put_13 (tgt := 29) rfl ⟨by omega, by omega⟩ ⟨by omega, by omega⟩ (fun c13 => ?_) (fun c13 => ?_)
  · refine v_aload_n hX eX7_put_29 rfl ?_
    refine v_getA hX eX7_put_30 fi_X7_30 ⟨by decide, rfl⟩ rfl ?_
    refine v_iload_n hX eX7_put_33 rfl ?_
    refine v_iload_n hX eX7_put_34 rfl ?_
    refine v_iast hX eX7_put_35 (by first | exact ⟨by decide, rfl⟩ | exact AR_rk (by omega)) ⟨by omega, by omega⟩ ?_
    try simp only [Int.toNat_natCast, Int.toNat_zero, Int.reduceToNat]
    refine v_iconst hX eX7_put_36 ?_
    exact v_zreturn hX hR eX7_put_37 rfl (by omega) (hq)
  · refine v_aload_n hX eX7_put_16 rfl ?_
    refine v_getA hX eX7_put_17 fi_X7_10 ⟨by decide, rfl⟩ rfl ?_
    refine v_iload_n hX eX7_put_20 rfl ?_
    refine v_fnV hX eX7_put_21 lV_X7_59 ok_MX4_isProject ⟨by decide, rfl⟩ rfl ⟨rfl, Nat.le_of_ble_eq_true rfl⟩ (Nat.le_of_ble_eq_true rfl) (c_X4_isProject hI hrq) rfl ?_
    try simp only [Int.toNat_natCast, Int.toNat_zero, Int.reduceToNat]
    refine v_ifB_ne hX eX7_put_24 (tgt := 29) rfl (fun c24 => ?_) (fun c24 => False.elim ((hq0.elim c13 c24)))
    refine v_aload_n hX eX7_put_29 rfl ?_
    refine v_getA hX eX7_put_30 fi_X7_30 ⟨by decide, rfl⟩ rfl ?_
    refine v_iload_n hX eX7_put_33 rfl ?_
    refine v_iload_n hX eX7_put_34 rfl ?_
    refine v_iast hX eX7_put_35 (by first | exact ⟨by decide, rfl⟩ | exact AR_rk (by omega)) ⟨by omega, by omega⟩ ?_
    try simp only [Int.toNat_natCast, Int.toNat_zero, Int.reduceToNat]
    refine v_iconst hX eX7_put_36 ?_
    exact v_zreturn hX hR eX7_put_37 rfl (by omega) (hq)
set_option maxHeartbeats 2000000 in
set_option maxRecDepth 20000 in
theorem c_X7_put_N {d : Nat} {h : Hp} {p q : Int} (hI : RI h) (hrp : rng p) (hrq : rng q) (bad : ¬ (inN h p ∧ (q = -1 ∨ inQ h q))) : Fn (d + 1) MX7_put [mA 0, mI p, mI q] h (some (mI 0)) h := by
  intro Q hq X hX hR
  show VW X 0 [some (mA 0), some (mI p), some (mI q)] [] h
  refine v_aload_n hX eX7_put_0 rfl ?_
  refine v_getA hX eX7_put_1 fi_X7_10 ⟨by decide, rfl⟩ rfl ?_
  refine v_iload_n hX eX7_put_4 rfl ?_
  refine v_fnV hX eX7_put_5 lV_X7_47 ok_MX4_isPupil ⟨by decide, rfl⟩ rfl ⟨rfl, Nat.le_of_ble_eq_true rfl⟩ (Nat.le_of_ble_eq_true rfl) (c_X4_isPupil hI hrp) rfl ?_
  try simp only [Int.toNat_natCast, Int.toNat_zero, Int.reduceToNat]
  refine v_ifB_eq hX eX7_put_8 (tgt := 27) rfl (fun c8 => ?_) (fun c8 => ?_)
  · refine v_iconst hX eX7_put_27 ?_
    exact v_zreturn hX hR eX7_put_28 rfl (by omega) (hq)
  · refine v_iload_n hX eX7_put_11 rfl ?_
    refine v_iconst hX eX7_put_12 ?_
    refine v_icmp_eq hX eX7_put_13 (tgt := 29) rfl ⟨by omega, by omega⟩ ⟨by omega, by omega⟩ (fun c13 => False.elim (bad ⟨c8, Or.inl c13⟩)) (fun c13 => ?_)
    refine v_aload_n hX eX7_put_16 rfl ?_
    refine v_getA hX eX7_put_17 fi_X7_10 ⟨by decide, rfl⟩ rfl ?_
    refine v_iload_n hX eX7_put_20 rfl ?_
    refine v_fnV hX eX7_put_21 lV_X7_59 ok_MX4_isProject ⟨by decide, rfl⟩ rfl ⟨rfl, Nat.le_of_ble_eq_true rfl⟩ (Nat.le_of_ble_eq_true rfl) (c_X4_isProject hI hrq) rfl ?_
    try simp only [Int.toNat_natCast, Int.toNat_zero, Int.reduceToNat]
    refine v_ifB_ne hX eX7_put_24 (tgt := 29) rfl (fun c24 => False.elim (bad ⟨c8, Or.inr c24⟩)) (fun c24 => ?_)
    refine v_iconst hX eX7_put_27 ?_
    exact v_zreturn hX hR eX7_put_28 rfl (by omega) (hq)
set_option maxHeartbeats 2000000 in
set_option maxRecDepth 20000 in
theorem c_X7_wrong {d : Nat} {h : Hp} (hI : RI h) (hL : PLI h) : Fn (d + 5) MX7_wrong [mA 0] h (some (mI (flt h))) h := by
  intro Q hq X hX hR
  show VW X 0 [some (mA 0)] [] h
  refine v_aload_n hX eX7_wrong_0 rfl ?_
  refine v_getA hX eX7_wrong_1 fi_X7_10 ⟨by decide, rfl⟩ rfl ?_
  refine v_aload_n hX eX7_wrong_4 rfl ?_
  refine v_getA hX eX7_wrong_5 fi_X7_30 ⟨by decide, rfl⟩ rfl ?_
  refine v_fnV hX eX7_wrong_8 lV_X7_140 ok_MX4_faultOf ⟨by decide, rfl⟩ rfl ⟨rfl, Nat.le_of_ble_eq_true rfl⟩ (Nat.le_of_ble_eq_true rfl) (c_X4_faultOf hI hL) rfl ?_
  try simp only [Int.toNat_natCast, Int.toNat_zero, Int.reduceToNat]
  exact v_ireturn hX hR eX7_wrong_11 rfl (hq)
/-! count -/
noncomputable def cntW (h : Hp) (w : Int) : Int := if w = 0 then h 1 3 else if w = 1 then h 1 4 else if w = 2 then (cntF (prF h) (h 1 3).toNat : Nat) else if w = 3 then h 3 2 else if w = 4 then h 0 7 else if w = 5 then (cntF (onF h) (h 1 4).toNat : Nat) else -1
set_option maxHeartbeats 2000000 in
set_option maxRecDepth 20000 in
theorem c_X7_count {d : Nat} {h : Hp} {w : Int} (hI : RI h) (hw : rng w) : Fn (d + 1) MX7_count [mA 0, mI w] h (some (mI (cntW h w))) h := by
  intro Q hq X hX hR
  have hn := hI.n
  have hbl : bs (prF h) (h 1 3).toNat < 256 := bs_lt8 _ (by omega)
  show VW X 0 [some (mA 0), some (mI w)] [] h
  by_cases h0 : 0 ≤ w ∧ w ≤ 5
  · rcases (show w = 0 ∨ w = 1 ∨ w = 2 ∨ w = 3 ∨ w = 4 ∨ w = 5 by omega) with rfl | rfl | rfl | rfl | rfl | rfl
    · refine v_iload_n hX eX7_count_0 rfl ?_
      refine v_tsw hX eX7_count_1 (tgt := 40) (by decide) (by decide) ?_
      refine v_aload_n hX eX7_count_40 rfl ?_
      refine v_getA hX eX7_count_41 fi_X7_10 ⟨by decide, rfl⟩ rfl ?_
      refine v_getI hX eX7_count_44 fi_X7_101 ⟨by decide, rfl⟩ ?_
      exact v_ireturn hX hR eX7_count_47 rfl (hq)
    · refine v_iload_n hX eX7_count_0 rfl ?_
      refine v_tsw hX eX7_count_1 (tgt := 48) (by decide) (by decide) ?_
      refine v_aload_n hX eX7_count_48 rfl ?_
      refine v_getA hX eX7_count_49 fi_X7_10 ⟨by decide, rfl⟩ rfl ?_
      refine v_getI hX eX7_count_52 fi_X7_104 ⟨by decide, rfl⟩ ?_
      exact v_ireturn hX hR eX7_count_55 rfl (hq)
    · refine v_iload_n hX eX7_count_0 rfl ?_
      refine v_tsw hX eX7_count_1 (tgt := 56) (by decide) (by decide) ?_
      refine v_aload_n hX eX7_count_56 rfl ?_
      refine v_getA hX eX7_count_57 fi_X7_10 ⟨by decide, rfl⟩ rfl ?_
      refine v_fnV hX eX7_count_60 lV_X7_107 ok_MX4_presentBits ⟨by decide, rfl⟩ rfl ⟨rfl, Nat.le_of_ble_eq_true rfl⟩ (Nat.le_of_ble_eq_true rfl) (c_X4_presentBits hI) rfl ?_
      try simp only [Int.toNat_natCast, Int.toNat_zero, Int.reduceToNat]
      refine v_fnS hX eX7_count_63 lS_X7_111 ok_MJ6_bitCount_0f7a4 ⟨rfl, Nat.le_of_ble_eq_true rfl⟩ (Nat.le_of_ble_eq_true rfl) (c_bitCount hbl) rfl ?_
      try simp only [Int.toNat_natCast, Int.toNat_zero, Int.reduceToNat]
      exact v_ireturn hX hR eX7_count_66 rfl (q_i (by rw [bcnt_bs _ (by omega)]; rfl) hq)
    · refine v_iload_n hX eX7_count_0 rfl ?_
      refine v_tsw hX eX7_count_1 (tgt := 67) (by decide) (by decide) ?_
      refine v_aload_n hX eX7_count_67 rfl ?_
      refine v_getA hX eX7_count_68 fi_X7_26 ⟨by decide, rfl⟩ rfl ?_
      refine v_getI hX eX7_count_71 fi_X7_116 ⟨by decide, rfl⟩ ?_
      exact v_ireturn hX hR eX7_count_74 rfl (hq)
    · refine v_iload_n hX eX7_count_0 rfl ?_
      refine v_tsw hX eX7_count_1 (tgt := 75) (by decide) (by decide) ?_
      refine v_aload_n hX eX7_count_75 rfl ?_
      refine v_getI hX eX7_count_76 fi_X7_119 ⟨by decide, rfl⟩ ?_
      exact v_ireturn hX hR eX7_count_79 rfl (hq)
    · refine v_iload_n hX eX7_count_0 rfl ?_
      refine v_tsw hX eX7_count_1 (tgt := 80) (by decide) (by decide) ?_
      refine v_aload_n hX eX7_count_80 rfl ?_
      refine v_getA hX eX7_count_81 fi_X7_10 ⟨by decide, rfl⟩ rfl ?_
      refine v_fnV hX eX7_count_84 lV_X7_122 ok_MX4_offeredCount ⟨by decide, rfl⟩ rfl ⟨rfl, Nat.le_of_ble_eq_true rfl⟩ (Nat.le_of_ble_eq_true rfl) (c_X4_offeredCount hI) rfl ?_
      try simp only [Int.toNat_natCast, Int.toNat_zero, Int.reduceToNat]
      exact v_ireturn hX hR eX7_count_87 rfl (hq)
  · have e : cntW h w = -1 := by
      unfold cntW
      rw [if_neg (by omega), if_neg (by omega), if_neg (by omega), if_neg (by omega), if_neg (by omega), if_neg (by omega)]
    rw [e] at hq
    refine v_iload_n hX eX7_count_0 rfl ?_
    refine v_tswD hX eX7_count_1 (tgt := 88) ⟨by omega, by omega, by omega⟩ rfl ?_
    refine v_iconst hX eX7_count_88 ?_
    exact v_ireturn hX hR eX7_count_89 rfl (hq)
