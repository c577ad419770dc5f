/-! the model's search: which PLAN is better -/
def colM (q : Int) : Int := if q < 0 then 5 else q
def ahd (P : SP) (t u : Nat → Int) : Nat → Nat → Prop
  | 0, _ => False
  | k + 1, i => if P.pr (P.od i) = true ∧ t (P.od i) ≠ u (P.od i) then (P.rk (P.od i) (t (P.od i)) < P.rk (P.od i) (u (P.od i)) ∨ (P.rk (P.od i) (t (P.od i)) = P.rk (P.od i) (u (P.od i)) ∧ colM (t (P.od i)) < colM (u (P.od i)))) else ahd P t u k (i + 1)
set_option maxHeartbeats 2000000 in
set_option maxRecDepth 20000 in
theorem c_X8_isAhead {d : Nat} {h : Hp} {P : SP} {k k2 : Nat} {t u : Nat → Int} (v : PV P h) (hk : AR k 0 8) (hk2 : AR k2 0 8) (ht : TV k t P.n h) (hu : TV k2 u P.n h) : Fn (d + 2) MX8_isAhead [mA 44, mA k, mA k2] h (some (mI (b01 (ahd P t u P.n 0)))) h := by
  intro Q hq X hX hR
  obtain ⟨v1, v2, v3, v4, v5, v6, v7, v8, v9⟩ := id v
  have loop : ∀ (m i : Nat), i + m = P.n → Q (some (mI (b01 (ahd P t u m i)))) h → ∀ l4 l5 l6, VW X 2 [some (mA 44), some (mA k), some (mA k2), some (mI i), l4, l5, l6] [] h := by
    intro m
    induction m with
    | zero =>
      intro i hi hq l4 l5 l6
      rw [b01_f (P := ahd P t u 0 i) (fun z => z)] at hq
      refine v_iload_n hX eX8_isAhead_2 rfl ?_
      refine v_aload_n hX eX8_isAhead_3 rfl ?_
      refine v_getI hX eX8_isAhead_4 fi_X8_84 ⟨by decide, rfl⟩ ?_
      rw [v1]
      refine v_icmp_ge hX eX8_isAhead_7 (tgt := 131) rfl ⟨by omega, by omega⟩ ⟨by omega, by omega⟩ (fun c7 => ?_) (fun c7 => False.elim ((by omega)))
      refine v_iconst hX eX8_isAhead_131 ?_
      exact v_zreturn hX hR eX8_isAhead_132 rfl (by omega) (hq)
    | succ m ih =>
      intro i hi hq l4 l5 l6
      obtain ⟨o1, o2⟩ := v9 i (by omega)
      have e46 := v3 (P.od i) o2
      obtain ⟨t1, t2, t3⟩ := ht (P.od i) o2
      obtain ⟨u1, u2, u3⟩ := hu (P.od i) o2
      have r1 := v5 (P.od i) (t (P.od i))
      have r2 := v5 (P.od i) (u (P.od i))
      have b2 : h 46 (P.od i) = 0 ∨ h 46 (P.od i) = 1 := by rw [e46]; split <;> omega
      rw [ahd] at hq
      by_cases hc : P.pr (P.od i) = true ∧ t (P.od i) ≠ u (P.od i)
      · rw [if_pos hc] at hq
        have h1 : h 46 (P.od i) = 1 := by rw [e46, if_pos hc.1]
        have cT : ∀ a : Int, colM a = if a < 0 then 5 else a := fun _ => rfl
        refine v_iload_n hX eX8_isAhead_2 rfl ?_
        refine v_aload_n hX eX8_isAhead_3 rfl ?_
        refine v_getI hX eX8_isAhead_4 fi_X8_84 ⟨by decide, rfl⟩ ?_
        rw [v1]
        refine v_icmp_ge hX eX8_isAhead_7 (tgt := 131) rfl ⟨by omega, by omega⟩ ⟨by omega, by omega⟩ (fun c7 => False.elim ((by omega))) (fun c7 => ?_)
        refine v_aload_n hX eX8_isAhead_10 rfl ?_
        refine v_getA hX eX8_isAhead_11 fi_X8_35 ⟨by decide, rfl⟩ rfl ?_
        refine v_iload_n hX eX8_isAhead_14 rfl ?_
        refine v_iald hX eX8_isAhead_15 (by first | exact ⟨by decide, rfl⟩ | exact hk | exact hk2 | exact AR_rk (by omega)) ⟨by omega, by omega⟩ ?_
        try simp only [Int.toNat_natCast, Int.toNat_zero, Int.reduceToNat]
        rw [o1]
        refine v_istore hX eX8_isAhead_16 rfl rfl ?_
        refine v_aload_n hX eX8_isAhead_18 rfl ?_
        refine v_getA hX eX8_isAhead_19 fi_X8_13 ⟨by decide, rfl⟩ rfl ?_
        refine v_iload hX eX8_isAhead_22 rfl ?_
        refine v_zald hX eX8_isAhead_24 (by first | exact ⟨by decide, rfl⟩ | exact hk | exact hk2 | exact AR_rk (by omega)) ⟨by omega, by omega⟩ ?_
        try simp only [Int.toNat_natCast, Int.toNat_zero, Int.reduceToNat]
        rw [h1]
        refine v_if_eq hX eX8_isAhead_25 (tgt := 125) rfl ⟨by omega, by omega⟩ (fun c25 => False.elim ((by omega))) (fun c25 => ?_)
        refine v_aload_n hX eX8_isAhead_28 rfl ?_
        refine v_iload hX eX8_isAhead_29 rfl ?_
        refine v_iald hX eX8_isAhead_31 (by first | exact ⟨by decide, rfl⟩ | exact hk | exact hk2 | exact AR_rk (by omega)) ⟨by omega, by omega⟩ ?_
        try simp only [Int.toNat_natCast, Int.toNat_zero, Int.reduceToNat]
        rw [t1]
        refine v_aload_n hX eX8_isAhead_32 rfl ?_
        refine v_iload hX eX8_isAhead_33 rfl ?_
        refine v_iald hX eX8_isAhead_35 (by first | exact ⟨by decide, rfl⟩ | exact hk | exact hk2 | exact AR_rk (by omega)) ⟨by omega, by omega⟩ ?_
        try simp only [Int.toNat_natCast, Int.toNat_zero, Int.reduceToNat]
        rw [u1]
        refine v_icmp_ne hX eX8_isAhead_36 (tgt := 42) rfl ⟨by omega, by omega⟩ ⟨by omega, by omega⟩ (fun c36 => ?_) (fun c36 => False.elim ((hc.2 c36)))
        refine v_aload_n hX eX8_isAhead_42 rfl ?_
        refine v_iload hX eX8_isAhead_43 rfl ?_
        refine v_aload_n hX eX8_isAhead_45 rfl ?_
        refine v_iload hX eX8_isAhead_46 rfl ?_
        refine v_iald hX eX8_isAhead_48 (by first | exact ⟨by decide, rfl⟩ | exact hk | exact hk2 | exact AR_rk (by omega)) ⟨by omega, by omega⟩ ?_
        try simp only [Int.toNat_natCast, Int.toNat_zero, Int.reduceToNat]
        rw [t1]
        refine v_fnV hX eX8_isAhead_49 lV_X8_170 ok_MX8_rankBy ⟨by decide, rfl⟩ rfl ⟨rfl, Nat.le_of_ble_eq_true rfl⟩ (Nat.le_of_ble_eq_true rfl) (c_X8_rankBy v o2 ⟨by omega, by omega⟩) rfl ?_
        try simp only [Int.toNat_natCast, Int.toNat_zero, Int.reduceToNat]
        refine v_istore hX eX8_isAhead_52 rfl rfl ?_
        refine v_aload_n hX eX8_isAhead_54 rfl ?_
        refine v_iload hX eX8_isAhead_55 rfl ?_
        refine v_aload_n hX eX8_isAhead_57 rfl ?_
        refine v_iload hX eX8_isAhead_58 rfl ?_
        refine v_iald hX eX8_isAhead_60 (by first | exact ⟨by decide, rfl⟩ | exact hk | exact hk2 | exact AR_rk (by omega)) ⟨by omega, by omega⟩ ?_
        try simp only [Int.toNat_natCast, Int.toNat_zero, Int.reduceToNat]
        rw [u1]
        refine v_fnV hX eX8_isAhead_61 lV_X8_170 ok_MX8_rankBy ⟨by decide, rfl⟩ rfl ⟨rfl, Nat.le_of_ble_eq_true rfl⟩ (Nat.le_of_ble_eq_true rfl) (c_X8_rankBy v o2 ⟨by omega, by omega⟩) rfl ?_
        try simp only [Int.toNat_natCast, Int.toNat_zero, Int.reduceToNat]
        refine v_istore hX eX8_isAhead_64 rfl rfl ?_
        refine v_iload hX eX8_isAhead_66 rfl ?_
        refine v_iload hX eX8_isAhead_68 rfl ?_
        refine v_icmp_eq hX eX8_isAhead_70 (tgt := 86) rfl ⟨by omega, by omega⟩ ⟨by omega, by omega⟩ (fun c70 => ?_) (fun c70 => ?_)
        · refine v_aload_n hX eX8_isAhead_86 rfl ?_
          refine v_iload hX eX8_isAhead_87 rfl ?_
          refine v_iald hX eX8_isAhead_89 (by first | exact ⟨by decide, rfl⟩ | exact hk | exact hk2 | exact AR_rk (by omega)) ⟨by omega, by omega⟩ ?_
          try simp only [Int.toNat_natCast, Int.toNat_zero, Int.reduceToNat]
          rw [t1]
          refine v_if_ge hX eX8_isAhead_90 (tgt := 97) rfl ⟨by omega, by omega⟩ (fun c90 => ?_) (fun c90 => ?_)
          · refine v_aload_n hX eX8_isAhead_97 rfl ?_
            refine v_iload hX eX8_isAhead_98 rfl ?_
            refine v_iald hX eX8_isAhead_100 (by first | exact ⟨by decide, rfl⟩ | exact hk | exact hk2 | exact AR_rk (by omega)) ⟨by omega, by omega⟩ ?_
            try simp only [Int.toNat_natCast, Int.toNat_zero, Int.reduceToNat]
            rw [t1]
            refine v_aload_n hX eX8_isAhead_101 rfl ?_
            refine v_iload hX eX8_isAhead_102 rfl ?_
            refine v_iald hX eX8_isAhead_104 (by first | exact ⟨by decide, rfl⟩ | exact hk | exact hk2 | exact AR_rk (by omega)) ⟨by omega, by omega⟩ ?_
            try simp only [Int.toNat_natCast, Int.toNat_zero, Int.reduceToNat]
            rw [u1]
            refine v_if_ge hX eX8_isAhead_105 (tgt := 112) rfl ⟨by omega, by omega⟩ (fun c105 => ?_) (fun c105 => ?_)
            · refine v_aload_n hX eX8_isAhead_112 rfl ?_
              refine v_iload hX eX8_isAhead_113 rfl ?_
              refine v_iald hX eX8_isAhead_115 (by first | exact ⟨by decide, rfl⟩ | exact hk | exact hk2 | exact AR_rk (by omega)) ⟨by omega, by omega⟩ ?_
              try simp only [Int.toNat_natCast, Int.toNat_zero, Int.reduceToNat]
              rw [u1]
              refine v_icmp_ge hX eX8_isAhead_116 (tgt := 123) rfl ⟨by omega, by omega⟩ ⟨by omega, by omega⟩ (fun c116 => ?_) (fun c116 => ?_)
              · refine v_iconst hX eX8_isAhead_123 ?_
                exact v_zreturn hX hR eX8_isAhead_124 rfl (by omega) (q_f (fun z => by rw [cT, cT] at z; rcases z with z | z; omega; (have := z.2; split at this <;> split at this <;> omega)) hq)
              · refine v_iconst hX eX8_isAhead_119 ?_
                refine v_goto hX eX8_isAhead_120 (tgt := 124) rfl ?_
                exact v_zreturn hX hR eX8_isAhead_124 rfl (by omega) (q_t (by right; refine ⟨by omega, ?_⟩; rw [cT, cT]; split <;> split <;> omega) hq)
            · refine v_iconst hX eX8_isAhead_108 ?_
              refine v_goto hX eX8_isAhead_109 (tgt := 116) rfl ?_
              refine v_icmp_ge hX eX8_isAhead_116 (tgt := 123) rfl ⟨by omega, by omega⟩ ⟨by omega, by omega⟩ (fun c116 => ?_) (fun c116 => ?_)
              · refine v_iconst hX eX8_isAhead_123 ?_
                exact v_zreturn hX hR eX8_isAhead_124 rfl (by omega) (q_f (fun z => by rw [cT, cT] at z; rcases z with z | z; omega; (have := z.2; split at this <;> split at this <;> omega)) hq)
              · refine v_iconst hX eX8_isAhead_119 ?_
                refine v_goto hX eX8_isAhead_120 (tgt := 124) rfl ?_
                exact v_zreturn hX hR eX8_isAhead_124 rfl (by omega) (q_t (by right; refine ⟨by omega, ?_⟩; rw [cT, cT]; split <;> split <;> omega) hq)
          · refine v_iconst hX eX8_isAhead_93 ?_
            refine v_goto hX eX8_isAhead_94 (tgt := 101) rfl ?_
            refine v_aload_n hX eX8_isAhead_101 rfl ?_
            refine v_iload hX eX8_isAhead_102 rfl ?_
            refine v_iald hX eX8_isAhead_104 (by first | exact ⟨by decide, rfl⟩ | exact hk | exact hk2 | exact AR_rk (by omega)) ⟨by omega, by omega⟩ ?_
            try simp only [Int.toNat_natCast, Int.toNat_zero, Int.reduceToNat]
            rw [u1]
            refine v_if_ge hX eX8_isAhead_105 (tgt := 112) rfl ⟨by omega, by omega⟩ (fun c105 => ?_) (fun c105 => ?_)
            · refine v_aload_n hX eX8_isAhead_112 rfl ?_
              refine v_iload hX eX8_isAhead_113 rfl ?_
              refine v_iald hX eX8_isAhead_115 (by first | exact ⟨by decide, rfl⟩ | exact hk | exact hk2 | exact AR_rk (by omega)) ⟨by omega, by omega⟩ ?_
              try simp only [Int.toNat_natCast, Int.toNat_zero, Int.reduceToNat]
              rw [u1]
              refine v_icmp_ge hX eX8_isAhead_116 (tgt := 123) rfl ⟨by omega, by omega⟩ ⟨by omega, by omega⟩ (fun c116 => ?_) (fun c116 => ?_)
              · refine v_iconst hX eX8_isAhead_123 ?_
                exact v_zreturn hX hR eX8_isAhead_124 rfl (by omega) (q_f (fun z => by rw [cT, cT] at z; rcases z with z | z; omega; (have := z.2; split at this <;> split at this <;> omega)) hq)
              · refine v_iconst hX eX8_isAhead_119 ?_
                refine v_goto hX eX8_isAhead_120 (tgt := 124) rfl ?_
                exact v_zreturn hX hR eX8_isAhead_124 rfl (by omega) (q_t (by right; refine ⟨by omega, ?_⟩; rw [cT, cT]; split <;> split <;> omega) hq)
            · refine v_iconst hX eX8_isAhead_108 ?_
              refine v_goto hX eX8_isAhead_109 (tgt := 116) rfl ?_
              refine v_icmp_ge hX eX8_isAhead_116 (tgt := 123) rfl ⟨by omega, by omega⟩ ⟨by omega, by omega⟩ (fun c116 => ?_) (fun c116 => ?_)
              · refine v_iconst hX eX8_isAhead_123 ?_
                exact v_zreturn hX hR eX8_isAhead_124 rfl (by omega) (q_f (fun z => by rw [cT, cT] at z; rcases z with z | z; omega; (have := z.2; split at this <;> split at this <;> omega)) hq)
              · refine v_iconst hX eX8_isAhead_119 ?_
                refine v_goto hX eX8_isAhead_120 (tgt := 124) rfl ?_
                exact v_zreturn hX hR eX8_isAhead_124 rfl (by omega) (q_t (by right; refine ⟨by omega, ?_⟩; rw [cT, cT]; split <;> split <;> omega) hq)
        · refine v_iload hX eX8_isAhead_73 rfl ?_
          refine v_iload hX eX8_isAhead_75 rfl ?_
          refine v_icmp_ge hX eX8_isAhead_77 (tgt := 84) rfl ⟨by omega, by omega⟩ ⟨by omega, by omega⟩ (fun c77 => ?_) (fun c77 => ?_)
          · refine v_iconst hX eX8_isAhead_84 ?_
            exact v_zreturn hX hR eX8_isAhead_85 rfl (by omega) (q_f (fun z => by rcases z with z | z <;> omega) hq)
          · refine v_iconst hX eX8_isAhead_80 ?_
            refine v_goto hX eX8_isAhead_81 (tgt := 85) rfl ?_
            exact v_zreturn hX hR eX8_isAhead_85 rfl (by omega) (q_t (Or.inl (by omega)) hq)
      · rw [if_neg hc] at hq
        have nx := fun l4 l5 l6 => ih (i + 1) (by omega) hq l4 l5 l6
        refine v_iload_n hX eX8_isAhead_2 rfl ?_
        refine v_aload_n hX eX8_isAhead_3 rfl ?_
        refine v_getI hX eX8_isAhead_4 fi_X8_84 ⟨by decide, rfl⟩ ?_
        rw [v1]
        refine v_icmp_ge hX eX8_isAhead_7 (tgt := 131) rfl ⟨by omega, by omega⟩ ⟨by omega, by omega⟩ (fun c7 => False.elim ((by omega))) (fun c7 => ?_)
        refine v_aload_n hX eX8_isAhead_10 rfl ?_
        refine v_getA hX eX8_isAhead_11 fi_X8_35 ⟨by decide, rfl⟩ rfl ?_
        refine v_iload_n hX eX8_isAhead_14 rfl ?_
        refine v_iald hX eX8_isAhead_15 (by first | exact ⟨by decide, rfl⟩ | exact hk | exact hk2 | exact AR_rk (by omega)) ⟨by omega, by omega⟩ ?_
        try simp only [Int.toNat_natCast, Int.toNat_zero, Int.reduceToNat]
        rw [o1]
        refine v_istore hX eX8_isAhead_16 rfl rfl ?_
        refine v_aload_n hX eX8_isAhead_18 rfl ?_
        refine v_getA hX eX8_isAhead_19 fi_X8_13 ⟨by decide, rfl⟩ rfl ?_
        refine v_iload hX eX8_isAhead_22 rfl ?_
        refine v_zald hX eX8_isAhead_24 (by first | exact ⟨by decide, rfl⟩ | exact hk | exact hk2 | exact AR_rk (by omega)) ⟨by omega, by omega⟩ ?_
        try simp only [Int.toNat_natCast, Int.toNat_zero, Int.reduceToNat]
        refine v_if_eq hX eX8_isAhead_25 (tgt := 125) rfl ⟨by omega, by omega⟩ (fun c25 => ?_) (fun c25 => ?_)
        · refine v_iinc hX eX8_isAhead_125 rfl rfl rfl ?_
          exact v_goto hX eX8_isAhead_128 (tgt := 2) rfl (nx _ _ _)
        · refine v_aload_n hX eX8_isAhead_28 rfl ?_
          refine v_iload hX eX8_isAhead_29 rfl ?_
          refine v_iald hX eX8_isAhead_31 (by first | exact ⟨by decide, rfl⟩ | exact hk | exact hk2 | exact AR_rk (by omega)) ⟨by omega, by omega⟩ ?_
          try simp only [Int.toNat_natCast, Int.toNat_zero, Int.reduceToNat]
          rw [t1]
          refine v_aload_n hX eX8_isAhead_32 rfl ?_
          refine v_iload hX eX8_isAhead_33 rfl ?_
          refine v_iald hX eX8_isAhead_35 (by first | exact ⟨by decide, rfl⟩ | exact hk | exact hk2 | exact AR_rk (by omega)) ⟨by omega, by omega⟩ ?_
          try simp only [Int.toNat_natCast, Int.toNat_zero, Int.reduceToNat]
          rw [u1]
          refine v_icmp_ne hX eX8_isAhead_36 (tgt := 42) rfl ⟨by omega, by omega⟩ ⟨by omega, by omega⟩ (fun c36 => False.elim ((hc ⟨by by_cases z : P.pr (P.od i) = true; exact z; (rw [e46, if_neg z] at c25; exact absurd rfl c25), c36⟩))) (fun c36 => ?_)
          refine v_goto hX eX8_isAhead_39 (tgt := 125) rfl ?_
          refine v_iinc hX eX8_isAhead_125 rfl rfl rfl ?_
          exact v_goto hX eX8_isAhead_128 (tgt := 2) rfl (nx _ _ _)
  show VW X 0 [some (mA 44), some (mA k), some (mA k2), none, none, none, none] [] h
  refine v_iconst hX eX8_isAhead_0 ?_
  refine v_istore_n hX eX8_isAhead_1 rfl rfl ?_
  exact loop P.n 0 (by omega) hq _ _ _
/-- by the marks of u, b24, b25, b26 -/
def btr (P : SP) (t u : Nat → Int) (b24 b25 b26 : Int) : Prop := mW P t < b24 ∨ (mW P t = b24 ∧ (mG P t < b25 ∨ (mG P t = b25 ∧ (b26 < mP P t ∨ (mP P t = b26 ∧ ahd P t u P.n 0)))))
theorem nin_rng {r : Int} (h : 1 ≤ r ∧ r ≤ 6) : 0 ≤ nin r ∧ nin r ≤ 6561 := by
  rcases (show r = 1 ∨ r = 2 ∨ r = 3 ∨ r = 4 ∨ r = 5 ∨ r = 6 by omega) with rfl | rfl | rfl | rfl | rfl | rfl <;> decide
theorem sumN_rng {f : Nat → Int} {B : Int} : ∀ n : Nat, (∀ i, i < n → 0 ≤ f i ∧ f i ≤ B) → 0 ≤ sumN f n ∧ sumN f n ≤ n * B
  | 0, _ => by simp [sumN]
  | n + 1, h => by
    have ih := sumN_rng n (fun i hi => h i (by omega))
    have := h n (by omega)
    rw [sumN, Int.natCast_add, Int.add_mul]
    simp only [Int.natCast_one, Int.one_mul]
    omega
theorem n8_mul {n : Nat} {B : Int} (hn : n ≤ 8) (hB : 0 ≤ B) : (n : Int) * B ≤ 8 * B := Int.mul_le_mul_of_nonneg_right (by omega) hB
theorem marks_rng {P : SP} {h : Hp} (v : PV P h) (t : Nat → Int) : (0 ≤ mW P t ∧ mW P t ≤ 52488) ∧ (0 ≤ mG P t ∧ mG P t ≤ 14448) ∧ (0 ≤ mP P t ∧ mP P t ≤ 64) := by
  obtain ⟨v1, v2, v3, v4, v5, v6, v7, v8, v9⟩ := v
  have a := sumN_rng (f := wF P t) (B := 6561) P.n (fun i hi => by
    have := nin_rng (v5 i (t i))
    unfold wF
    split <;> omega)
  have b := sumN_rng (f := gF P t) (B := 1806) P.n (fun i hi => by
    have h1 := v5 i (t i)
    have h2 := (v7 i hi).2
    have := cst_mul (r := P.rk i (t i)) (s := P.sc i) (by omega) h2
    unfold gF
    split <;> omega)
  have c := sumN_rng (f := fun a => (cntF (pF P t a) P.n : Nat)) (B := 8) P.n (fun i hi => by
    have := cntF_le (pF P t i) P.n
    show (0 : Int) ≤ (cntF (pF P t i) P.n : Nat) ∧ ((cntF (pF P t i) P.n : Nat) : Int) ≤ 8
    omega)
  have m1 := n8_mul (B := 6561) v2 (by decide)
  have m2 := n8_mul (B := 1806) v2 (by decide)
  have m3 := n8_mul (B := 8) v2 (by decide)
  unfold mW mG mP
  omega
set_option maxHeartbeats 2000000 in
set_option maxRecDepth 20000 in
theorem c_X8_isBetter {d : Nat} {h : Hp} {P : SP} {k : Nat} {t u : Nat → Int} (v : PV P h) (hk : AR k 0 8) (hk44 : k ≠ 44) (ht : TV k t P.n h) (hu : TV 61 u P.n h) (h24 : rng (h 44 24)) (h25 : rng (h 44 25)) (h26 : rng (h 44 26)) : Fr (d + 3) MX8_isBetter [mA 44, mA k] h (fun r x => r = some (mI (b01 (btr P t u (h 44 24) (h 44 25) (h 44 26)))) ∧ WGx P h t (mW P t) (mG P t) (mP P t) x) := by
  intro Q hq X hX hR
  have mk := marks_rng v t
  have body : ∀ x, WGx P h t (mW P t) (mG P t) (mP P t) x → VW X 5 [some (mA 44), some (mA k)] [] x := by
    intro x w
    have w18 := w.2.1
    have w19 := w.2.2.1
    have w20 := w.2.2.2
    have x24 : x 44 24 = h 44 24 := w.1 _ _ (by omega)
    have x25 : x 44 25 = h 44 25 := w.1 _ _ (by omega)
    have x26 : x 44 26 = h 44 26 := w.1 _ _ (by omega)
    have xt : TV k t P.n x := fun p hp => by rw [w.1 k p (fun z => hk44 z.1)]; exact ht p hp
    have xu : TV 61 u P.n x := fun p hp => by rw [w.1 61 p (by omega)]; exact hu p hp
    have fin : ∀ b : Int, b = b01 (btr P t u (h 44 24) (h 44 25) (h 44 26)) → Q (some (mI b)) x := fun b hb => hq _ _ ⟨by rw [hb], w⟩
    refine v_aload_n hX eX8_isBetter_5 rfl ?_
    refine v_getI hX eX8_isBetter_6 fi_X8_161 ⟨by decide, rfl⟩ ?_
    refine v_aload_n hX eX8_isBetter_9 rfl ?_
    refine v_getI hX eX8_isBetter_10 fi_X8_181 ⟨by decide, rfl⟩ ?_
    refine v_icmp_eq hX eX8_isBetter_13 (tgt := 33) rfl ⟨by omega, by omega⟩ ⟨by omega, by omega⟩ (fun c13 => ?_) (fun c13 => ?_)
    · refine v_aload_n hX eX8_isBetter_33 rfl ?_
      refine v_getI hX eX8_isBetter_34 fi_X8_164 ⟨by decide, rfl⟩ ?_
      refine v_aload_n hX eX8_isBetter_37 rfl ?_
      refine v_getI hX eX8_isBetter_38 fi_X8_184 ⟨by decide, rfl⟩ ?_
      refine v_icmp_eq hX eX8_isBetter_41 (tgt := 61) rfl ⟨by omega, by omega⟩ ⟨by omega, by omega⟩ (fun c41 => ?_) (fun c41 => ?_)
      · refine v_aload_n hX eX8_isBetter_61 rfl ?_
        refine v_getI hX eX8_isBetter_62 fi_X8_167 ⟨by decide, rfl⟩ ?_
        refine v_aload_n hX eX8_isBetter_65 rfl ?_
        refine v_getI hX eX8_isBetter_66 fi_X8_187 ⟨by decide, rfl⟩ ?_
        refine v_icmp_eq hX eX8_isBetter_69 (tgt := 91) rfl ⟨by omega, by omega⟩ ⟨by omega, by omega⟩ (fun c69 => ?_) (fun c69 => ?_)
        · refine v_aload_n hX eX8_isBetter_91 rfl ?_
          refine v_aload_n hX eX8_isBetter_92 rfl ?_
          refine v_aload_n hX eX8_isBetter_93 rfl ?_
          refine v_getA hX eX8_isBetter_94 fi_X8_59 ⟨by decide, rfl⟩ rfl ?_
          refine v_fnV hX eX8_isBetter_97 lV_X8_190 ok_MX8_isAhead ⟨by decide, rfl⟩ rfl ⟨rfl, Nat.le_of_ble_eq_true rfl⟩ (Nat.le_of_ble_eq_true rfl) (c_X8_isAhead (w.pv v) hk ⟨by decide, rfl⟩ xt xu) rfl ?_
          try simp only [Int.toNat_natCast, Int.toNat_zero, Int.reduceToNat]
          exact v_zreturn hX hR eX8_isBetter_100 rfl (by first | omega | exact b01_or _) (fin _ (b01_iff ⟨fun z => Or.inr ⟨by rw [← w18, ← x24]; omega, Or.inr ⟨by rw [← w19, ← x25]; omega, Or.inr ⟨by rw [← w20, ← x26]; omega, z⟩⟩⟩, fun z => by unfold btr at z; rw [← w18, ← x24, ← w19, ← x25, ← w20, ← x26] at z; rcases z with z | z; omega; (rcases z.2 with z | z; omega; (rcases z.2 with z | z; omega; exact z.2))⟩))
        · refine v_aload_n hX eX8_isBetter_72 rfl ?_
          refine v_getI hX eX8_isBetter_73 fi_X8_167 ⟨by decide, rfl⟩ ?_
          refine v_aload_n hX eX8_isBetter_76 rfl ?_
          refine v_getI hX eX8_isBetter_77 fi_X8_187 ⟨by decide, rfl⟩ ?_
          refine v_icmp_le hX eX8_isBetter_80 (tgt := 87) rfl ⟨by omega, by omega⟩ ⟨by omega, by omega⟩ (fun c80 => ?_) (fun c80 => ?_)
          · refine v_iconst hX eX8_isBetter_87 ?_
            refine v_goto hX eX8_isBetter_88 (tgt := 100) rfl ?_
            exact v_zreturn hX hR eX8_isBetter_100 rfl (by first | omega | exact b01_or _) (fin 0 (b01_f (fun z => by unfold btr at z; rw [← w18, ← x24, ← w19, ← x25, ← w20, ← x26] at z; rcases z with z | z; omega; (rcases z.2 with z | z; omega; (rcases z.2 with z | z; omega; exact c69 z.1)))).symm)
          · refine v_iconst hX eX8_isBetter_83 ?_
            refine v_goto hX eX8_isBetter_84 (tgt := 100) rfl ?_
            exact v_zreturn hX hR eX8_isBetter_100 rfl (by first | omega | exact b01_or _) (fin 1 (b01_t (Or.inr ⟨by rw [← w18, ← x24]; omega, Or.inr ⟨by rw [← w19, ← x25]; omega, Or.inl (by rw [← w20, ← x26]; omega)⟩⟩)).symm)
      · refine v_aload_n hX eX8_isBetter_44 rfl ?_
        refine v_getI hX eX8_isBetter_45 fi_X8_164 ⟨by decide, rfl⟩ ?_
        refine v_aload_n hX eX8_isBetter_48 rfl ?_
        refine v_getI hX eX8_isBetter_49 fi_X8_184 ⟨by decide, rfl⟩ ?_
        refine v_icmp_ge hX eX8_isBetter_52 (tgt := 59) rfl ⟨by omega, by omega⟩ ⟨by omega, by omega⟩ (fun c52 => ?_) (fun c52 => ?_)
        · refine v_iconst hX eX8_isBetter_59 ?_
          exact v_zreturn hX hR eX8_isBetter_60 rfl (by omega) (fin 0 (b01_f (fun z => by unfold btr at z; rw [← w18, ← x24, ← w19, ← x25] at z; rcases z with z | z; omega; (rcases z.2 with z | z; omega; exact c41 z.1))).symm)
        · refine v_iconst hX eX8_isBetter_55 ?_
          refine v_goto hX eX8_isBetter_56 (tgt := 60) rfl ?_
          exact v_zreturn hX hR eX8_isBetter_60 rfl (by omega) (fin 1 (b01_t (Or.inr ⟨by rw [← w18, ← x24]; omega, Or.inl (by rw [← w19, ← x25]; omega)⟩)).symm)
    · refine v_aload_n hX eX8_isBetter_16 rfl ?_
      refine v_getI hX eX8_isBetter_17 fi_X8_161 ⟨by decide, rfl⟩ ?_
      refine v_aload_n hX eX8_isBetter_20 rfl ?_
      refine v_getI hX eX8_isBetter_21 fi_X8_181 ⟨by decide, rfl⟩ ?_
      refine v_icmp_ge hX eX8_isBetter_24 (tgt := 31) rfl ⟨by omega, by omega⟩ ⟨by omega, by omega⟩ (fun c24 => ?_) (fun c24 => ?_)
      · refine v_iconst hX eX8_isBetter_31 ?_
        exact v_zreturn hX hR eX8_isBetter_32 rfl (by omega) (fin 0 (b01_f (fun z => by unfold btr at z; rw [← w18, ← x24] at z; rcases z with z | z; omega; exact c13 z.1)).symm)
      · refine v_iconst hX eX8_isBetter_27 ?_
        refine v_goto hX eX8_isBetter_28 (tgt := 32) rfl ?_
        exact v_zreturn hX hR eX8_isBetter_32 rfl (by omega) (fin 1 (b01_t (Or.inl (by rw [← w18, ← x24]; omega))).symm)
  show VW X 0 [some (mA 44), some (mA k)] [] h
  refine v_aload_n hX eX8_isBetter_0 rfl ?_
  refine v_aload_n hX eX8_isBetter_1 rfl ?_
  refine v_frV hX eX8_isBetter_2 lV_X8_177 ok_MX8_weigh ⟨by decide, rfl⟩ rfl ⟨rfl, Nat.le_of_ble_eq_true rfl⟩ (Nat.le_of_ble_eq_true rfl) (c_X8_weigh v hk hk44 ht) rfl ?_
  rintro rr x ⟨rfl, w⟩
  exact body x w
/-! what is kept of a PLAN -/
def KPx (P : SP) (h : Hp) (k : Nat) (t : Nat → Int) (x : Hp) : Prop := (∀ a j, ¬ (a = 44 ∧ (j = 18 ∨ j = 19 ∨ j = 20 ∨ j = 24 ∨ j = 25 ∨ j = 26)) → a ≠ 61 → x a j = h a j) ∧ x 44 24 = mW P t ∧ x 44 25 = mG P t ∧ x 44 26 = mP P t ∧ (∀ j, j < 8 → x 61 j = h k j) ∧ ∀ j, 8 ≤ j → x 61 j = h 61 j
set_option maxHeartbeats 2000000 in
set_option maxRecDepth 20000 in
theorem c_X8_keeps {d : Nat} {h : Hp} {P : SP} {k : Nat} {t : Nat → Int} (v : PV P h) (hk : AR k 0 8) (hk44 : k ≠ 44 ∧ k ≠ 61) (ht : TV k t P.n h) : Fr (d + 3) MX8_keeps [mA 44, mA k] h (fun r x => r = none ∧ KPx P h k t x) := by
  intro Q hq X hX hR
  have body : ∀ x, WGx P h t (mW P t) (mG P t) (mP P t) x → VW X 5 [some (mA 44), some (mA k), none] [] x := by
    intro x w
    have w18 := w.2.1
    have w19 := w.2.2.1
    have w20 := w.2.2.2
    have loop : ∀ i : Nat, i ≤ 8 → ∀ y, ((∀ a j, ¬ (a = 44 ∧ (j = 18 ∨ j = 19 ∨ j = 20 ∨ j = 24 ∨ j = 25 ∨ j = 26)) → a ≠ 61 → y a j = h a j) ∧ y 44 24 = mW P t ∧ y 44 25 = mG P t ∧ y 44 26 = mP P t ∧ (∀ j, j < i → y 61 j = h k j) ∧ ∀ j, i ≤ j → y 61 j = h 61 j) → VW X 31 [some (mA 44), some (mA k), some (mI i)] [] y := by
      refine loop_up 8 ?_ ?_
      · intro y w
        refine v_iload_n hX eX8_keeps_31 rfl ?_
        refine v_bipush hX eX8_keeps_32 (by decide) ?_
        refine v_icmp_ge hX eX8_keeps_34 (tgt := 52) rfl ⟨by omega, by omega⟩ ⟨by omega, by omega⟩ (fun c34 => ?_) (fun c34 => False.elim ((by omega)))
        exact v_return hX hR eX8_keeps_52 rfl (hq _ _ ⟨rfl, w⟩)
      · intro i hi ih y w
        obtain ⟨w1, w2, w3, w4, w5, w6⟩ := w
        have nx := ih (up y 61 i (y k i)) ⟨fun a j h1 h2 => by rw [up_ob h2]; exact w1 a j h1 h2, by rw [up_ob (by decide)]; exact w2, by rw [up_ob (by decide)]; exact w3, by rw [up_ob (by decide)]; exact w4, fun j hj => by
          by_cases e : j = i
          · subst e; rw [up_same]; exact w1 k j (fun z => hk44.1 z.1) hk44.2
          · rw [up_ne (by omega)]; exact w5 j (by omega), fun j hj => by rw [up_ne (by omega)]; exact w6 j (by omega)⟩
        refine v_iload_n hX eX8_keeps_31 rfl ?_
        refine v_bipush hX eX8_keeps_32 (by decide) ?_
        refine v_icmp_ge hX eX8_keeps_34 (tgt := 52) rfl ⟨by omega, by omega⟩ ⟨by omega, by omega⟩ (fun c34 => False.elim ((by omega))) (fun c34 => ?_)
        refine v_aload_n hX eX8_keeps_37 rfl ?_
        refine v_getA hX eX8_keeps_38 fi_X8_59 ⟨by decide, rfl⟩ rfl ?_
        refine v_iload_n hX eX8_keeps_41 rfl ?_
        refine v_aload_n hX eX8_keeps_42 rfl ?_
        refine v_iload_n hX eX8_keeps_43 rfl ?_
        refine v_iald hX eX8_keeps_44 (by first | exact ⟨by decide, rfl⟩ | exact hk | exact hk2 | exact AR_rk (by omega)) ⟨by omega, by omega⟩ ?_
        try simp only [Int.toNat_natCast, Int.toNat_zero, Int.reduceToNat]
        refine v_iast hX eX8_keeps_45 (by first | exact ⟨by decide, rfl⟩ | exact hk | exact hk2 | exact AR_rk (by omega)) ⟨by omega, by omega⟩ ?_
        try simp only [Int.toNat_natCast, Int.toNat_zero, Int.reduceToNat]
        refine v_iinc hX eX8_keeps_46 rfl rfl rfl ?_
        refine v_goto hX eX8_keeps_49 (tgt := 31) rfl ?_
        exact nx
    have l0 := loop 0 (by omega) (up (up (up x 44 24 (mW P t)) 44 25 (mG P t)) 44 26 (mP P t)) ⟨fun a j h1 h2 => by rw [up_ne (by omega), up_ne (by omega), up_ne (by omega)]; exact w.1 a j (by omega), by rw [up_ne (by omega), up_ne (by omega), up_same], by rw [up_ne (by omega), up_same], up_same, fun j hj => absurd hj (Nat.not_lt_zero _), fun j _ => by rw [up_ob (by decide), up_ob (by decide), up_ob (by decide)]; exact w.1 61 j (by omega)⟩
    refine v_aload_n hX eX8_keeps_5 rfl ?_
    refine v_aload_n hX eX8_keeps_6 rfl ?_
    refine v_getI hX eX8_keeps_7 fi_X8_161 ⟨by decide, rfl⟩ ?_
    rw [w18]
    refine v_putI hX eX8_keeps_10 fi_X8_181 ⟨by decide, rfl⟩ ?_
    refine v_aload_n hX eX8_keeps_13 rfl ?_
    refine v_aload_n hX eX8_keeps_14 rfl ?_
    refine v_getI hX eX8_keeps_15 fi_X8_164 ⟨by decide, rfl⟩ ?_
    rw [up_ne (by omega), w19]
    refine v_putI hX eX8_keeps_18 fi_X8_184 ⟨by decide, rfl⟩ ?_
    refine v_aload_n hX eX8_keeps_21 rfl ?_
    refine v_aload_n hX eX8_keeps_22 rfl ?_
    refine v_getI hX eX8_keeps_23 fi_X8_167 ⟨by decide, rfl⟩ ?_
    rw [up_ne (by omega), up_ne (by omega), w20]
    refine v_putI hX eX8_keeps_26 fi_X8_187 ⟨by decide, rfl⟩ ?_
    refine v_iconst hX eX8_keeps_29 ?_
    refine v_istore_n hX eX8_keeps_30 rfl rfl ?_
    exact l0
  show VW X 0 [some (mA 44), some (mA k), none] [] h
  refine v_aload_n hX eX8_keeps_0 rfl ?_
  refine v_aload_n hX eX8_keeps_1 rfl ?_
  refine v_frV hX eX8_keeps_2 lV_X8_177 ok_MX8_weigh ⟨by decide, rfl⟩ rfl ⟨rfl, Nat.le_of_ble_eq_true rfl⟩ (Nat.le_of_ble_eq_true rfl) (c_X8_weigh v hk hk44.1 ht) rfl ?_
  rintro rr x ⟨rfl, w⟩
  exact body x w
def mvM (P : SP) (pl t : Nat → Int) : Nat → Bool := fun p => P.pr p && (decide (0 ≤ pl p) && decide (pl p ≠ t p))
set_option maxHeartbeats 2000000 in
set_option maxRecDepth 20000 in
theorem c_X8_movesOf {d : Nat} {h : Hp} {P : SP} {k : Nat} {t pl : Nat → Int} (v : PV P h) (hk : AR k 0 8) (ht : TV k t P.n h) (hpl : TV 50 pl P.n h) : Fn d MX8_movesOf [mA 44, mA k] h (some (mI (cntF (mvM P pl t) P.n : Nat))) h := by
  intro Q hq X hX hR
  obtain ⟨v1, v2, v3, v4, v5, v6, v7, v8, v9⟩ := id v
  have loop : ∀ i : Nat, i ≤ P.n → VW X 4 [some (mA 44), some (mA k), some (mI (cntF (mvM P pl t) i : Nat)), some (mI i)] [] h := by
    refine loop_up _ ?_ ?_
    · refine v_iload_n hX eX8_movesOf_4 rfl ?_
      refine v_aload_n hX eX8_movesOf_5 rfl ?_
      refine v_getI hX eX8_movesOf_6 fi_X8_84 ⟨by decide, rfl⟩ ?_
      rw [v1]
      refine v_icmp_ge hX eX8_movesOf_9 (tgt := 56) rfl ⟨by omega, by omega⟩ ⟨by omega, by omega⟩ (fun c9 => ?_) (fun c9 => False.elim ((by omega)))
      refine v_iload_n hX eX8_movesOf_56 rfl ?_
      exact v_ireturn hX hR eX8_movesOf_57 rfl (hq)
    · intro i hi ih
      have e46 := v3 i hi
      have b2 : h 46 i = 0 ∨ h 46 i = 1 := by rw [e46]; split <;> omega
      obtain ⟨t1, t2, t3⟩ := ht i hi
      obtain ⟨p1, p2, p3⟩ := hpl i hi
      have no : ¬ mvM P pl t i = true → VW X 48 [some (mA 44), some (mA k), some (mI (cntF (mvM P pl t) i : Nat)), some (mI i)] [mI 0, mI (cntF (mvM P pl t) i : Nat)] h := by
        intro z
        rw [cntF_f z] at ih
        refine v_iadd hX eX8_movesOf_48 ?_
        rw [Int.add_zero]
        refine v_istore_n hX eX8_movesOf_49 rfl rfl ?_
        refine v_iinc hX eX8_movesOf_50 rfl rfl rfl ?_
        refine v_goto hX eX8_movesOf_53 (tgt := 4) rfl ?_
        exact ih
      have yes : mvM P pl t i = true → VW X 48 [some (mA 44), some (mA k), some (mI (cntF (mvM P pl t) i : Nat)), some (mI i)] [mI 1, mI (cntF (mvM P pl t) i : Nat)] h := by
        intro z
        rw [cntF_t z] at ih
        refine v_iadd hX eX8_movesOf_48 ?_
        refine v_istore_n hX eX8_movesOf_49 rfl rfl ?_
        refine v_iinc hX eX8_movesOf_50 rfl rfl rfl ?_
        refine v_goto hX eX8_movesOf_53 (tgt := 4) rfl ?_
        exact ih
      have mi : mvM P pl t i = true ↔ P.pr i = true ∧ 0 ≤ pl i ∧ pl i ≠ t i := by simp [mvM]
      refine v_iload_n hX eX8_movesOf_4 rfl ?_
      refine v_aload_n hX eX8_movesOf_5 rfl ?_
      refine v_getI hX eX8_movesOf_6 fi_X8_84 ⟨by decide, rfl⟩ ?_
      rw [v1]
      refine v_icmp_ge hX eX8_movesOf_9 (tgt := 56) rfl ⟨by omega, by omega⟩ ⟨by omega, by omega⟩ (fun c9 => False.elim ((by omega))) (fun c9 => ?_)
      refine v_iload_n hX eX8_movesOf_12 rfl ?_
      refine v_aload_n hX eX8_movesOf_13 rfl ?_
      refine v_getA hX eX8_movesOf_14 fi_X8_13 ⟨by decide, rfl⟩ rfl ?_
      refine v_iload_n hX eX8_movesOf_17 rfl ?_
      refine v_zald hX eX8_movesOf_18 (by first | exact ⟨by decide, rfl⟩ | exact hk | exact hk2 | exact AR_rk (by omega)) ⟨by omega, by omega⟩ ?_
      try simp only [Int.toNat_natCast, Int.toNat_zero, Int.reduceToNat]
      refine v_if_eq hX eX8_movesOf_19 (tgt := 47) rfl ⟨by omega, by omega⟩ (fun c19 => ?_) (fun c19 => ?_)
      · refine v_iconst hX eX8_movesOf_47 ?_
        exact no (fun z => by rw [e46, if_pos (mi.mp z).1] at c19; exact absurd c19 (by decide))
      · refine v_aload_n hX eX8_movesOf_22 rfl ?_
        refine v_getA hX eX8_movesOf_23 fi_X8_26 ⟨by decide, rfl⟩ rfl ?_
        refine v_iload_n hX eX8_movesOf_26 rfl ?_
        refine v_iald hX eX8_movesOf_27 (by first | exact ⟨by decide, rfl⟩ | exact hk | exact hk2 | exact AR_rk (by omega)) ⟨by omega, by omega⟩ ?_
        try simp only [Int.toNat_natCast, Int.toNat_zero, Int.reduceToNat]
        rw [p1]
        refine v_if_lt hX eX8_movesOf_28 (tgt := 47) rfl ⟨by omega, by omega⟩ (fun c28 => ?_) (fun c28 => ?_)
        · refine v_iconst hX eX8_movesOf_47 ?_
          exact no (fun z => by have := (mi.mp z).2.1; omega)
        · refine v_aload_n hX eX8_movesOf_31 rfl ?_
          refine v_getA hX eX8_movesOf_32 fi_X8_26 ⟨by decide, rfl⟩ rfl ?_
          refine v_iload_n hX eX8_movesOf_35 rfl ?_
          refine v_iald hX eX8_movesOf_36 (by first | exact ⟨by decide, rfl⟩ | exact hk | exact hk2 | exact AR_rk (by omega)) ⟨by omega, by omega⟩ ?_
          try simp only [Int.toNat_natCast, Int.toNat_zero, Int.reduceToNat]
          rw [p1]
          refine v_aload_n hX eX8_movesOf_37 rfl ?_
          refine v_iload_n hX eX8_movesOf_38 rfl ?_
          refine v_iald hX eX8_movesOf_39 (by first | exact ⟨by decide, rfl⟩ | exact hk | exact hk2 | exact AR_rk (by omega)) ⟨by omega, by omega⟩ ?_
          try simp only [Int.toNat_natCast, Int.toNat_zero, Int.reduceToNat]
          rw [t1]
          refine v_icmp_eq hX eX8_movesOf_40 (tgt := 47) rfl ⟨by omega, by omega⟩ ⟨by omega, by omega⟩ (fun c40 => ?_) (fun c40 => ?_)
          · refine v_iconst hX eX8_movesOf_47 ?_
            exact no (fun z => (mi.mp z).2.2 c40)
          · refine v_iconst hX eX8_movesOf_43 ?_
            refine v_goto hX eX8_movesOf_44 (tgt := 48) rfl ?_
            exact yes (mi.mpr ⟨by by_cases z : P.pr i = true; exact z; (rw [e46, if_neg z] at c19; exact absurd rfl c19), by omega, c40⟩)
  show VW X 0 [some (mA 44), some (mA k), none, none] [] h
  refine v_iconst hX eX8_movesOf_0 ?_
  refine v_istore_n hX eX8_movesOf_1 rfl rfl ?_
  refine v_iconst hX eX8_movesOf_2 ?_
  refine v_istore_n hX eX8_movesOf_3 rfl rfl ?_
  exact loop 0 (by omega)
