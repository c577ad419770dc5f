/-! WISHES in one call, lots, counts, WRONG, places changed -/
theorem addW_5 {g : Hp} (hI : RI g) {p j : Nat} (hp : p < 8) (hw : WI g p) (hj : j < 5) (h6 : g (31 + p) j = 6) : g (23 + p) 2 < 5 := by
  have a := (addW_RI hI hp hw hj h6).1
  have := (a.pu (p := p) hp).2.1
  have e : addW g p j (23 + p) 2 = g (23 + p) 2 + 1 := by unfold addW; rw [up_ob (by omega), up_same]
  omega
def WF (p : Nat) (g x : Hp) : Prop := ∀ a b, ¬ (a = 47 ∧ b = p) → ¬ (a = 48 ∧ 5 * p ≤ b ∧ b < 5 * p + 5) → x a b = g a b
theorem mAdd_WF {g x : Hp} {p : Nat} {j : Int} (w : WF p g x) (h5 : 0 ≤ x 47 p ∧ x 47 p < 5) : WF p g (mAdd x p j) := by
  intro a b h1 h2
  rw [← w a b h1 h2]
  unfold mAdd
  rw [up_ne h1, up_ne (fun z => h2 ⟨z.1, by omega, by omega⟩)]
set_option maxHeartbeats 2000000 in
set_option maxRecDepth 20000 in
theorem c_X8_wishes {d : Nat} {h g c : Hp} {p : Nat} {kind n f step : Int} (hg : up h 44 0 0 = g) (hn : 0 ≤ g 44 1 ∧ g 44 1 ≤ 8) (hm : 0 ≤ g 44 11 ∧ g 44 11 ≤ 5) (hc4 : g 44 11 = c 1 4) (hI : RI c) (hp : (p : Int) < g 44 1) (hk : 0 ≤ kind ∧ kind ≤ 2) (hnn : 0 ≤ n ∧ n ≤ 20 ∨ kind = 2 ∧ n ≤ 20 ∧ -2147483648 ≤ n) (hf : rng f) (hs : rng step) : Fr (d + 2) MX8_wishes [mA 44, mI p, mI kind, mI n, mI f, mI step] h (fun r x => WR (wlF p kind step (if kind = 2 then 0 else n.toNat) f (clr c p)) x p ∧ r = some (mI (x 47 p)) ∧ WF p g x) := by
  intro Q hq X hX hR
  have cl := clr_RI hI (p := p) (by omega)
  have w0 : WR (clr c p) (up g 47 p 0) p := by
    refine ⟨by rw [up_same]; decide, fun k hk => by rw [up_same] at hk; exact absurd hk (Nat.not_lt_zero _), fun j hj z => ?_, ?_⟩
    · rw [clr_at, if_pos ⟨rfl, hj⟩] at z
      exact absurd rfl z
    · rw [up_same, clr_at, if_neg (by omega), if_pos ⟨rfl, rfl⟩]
  have f0 : WF p g (up g 47 p 0) := fun a b h1 _ => up_ne h1
  have loop : kind ≠ 2 → ∀ (k i : Nat) (c' x : Hp), (i : Int) + k = n → RI c' → WI c' p → c' 1 4 = c 1 4 → WR c' x p → WF p g x → (∀ y, WR (wlF p kind step k (w32 (f + i * step)) c') y p → WF p g y → Q (some (mI (y 47 p))) y) → ∀ l7, VW X 55 [some (mA 44), some (mI p), some (mI kind), some (mI n), some (mI f), some (mI step), some (mI i), l7] [] x := by
    intro h2 k
    induction k with
    | zero =>
      intro i c' x hi cI cW c4 cR cF hq l7
      refine v_iload hX eX8_wishes_55 rfl ?_
      refine v_iload_n hX eX8_wishes_57 rfl ?_
      refine v_icmp_ge hX eX8_wishes_58 (tgt := 129) rfl ⟨by omega, by omega⟩ ⟨by omega, by omega⟩ (fun c58 => ?_) (fun c58 => False.elim ((by omega)))
      refine v_aload_n hX eX8_wishes_129 rfl ?_
      refine v_getA hX eX8_wishes_130 fi_X8_17 ⟨by decide, rfl⟩ rfl ?_
      refine v_iload_n hX eX8_wishes_133 rfl ?_
      refine v_iald hX eX8_wishes_134 (by first | exact ⟨by decide, rfl⟩ | exact AR_rk (by omega)) ⟨by omega, by omega⟩ ?_
      try simp only [Int.toNat_natCast, Int.toNat_zero, Int.reduceToNat]
      exact v_ireturn hX hR eX8_wishes_135 rfl (hq x cR cF)
    | succ k ih =>
      intro i c' x hi cI cW c4 cR cF hq l7
      have x1 : x 44 1 = g 44 1 := cF 44 1 (by omega) (by omega)
      have x11 : x 44 11 = g 44 11 := cF 44 11 (by omega) (by omega)
      have rk := cR.rk (by rw [c4]; exact hI.q.2)
      generalize ee : w32 (f + i * step) = e at hq
      have er : rng e := ee ▸ w32_rng _
      have en : w32 (e + step) = w32 (f + ((i + 1 : Nat) : Int) * step) := by
        rw [← ee, w32_add, Int.natCast_add, Int.add_mul, Int.add_assoc]
        simp
      have tail : rng (wlV kind e) → ∀ l7, VW X 88 [some (mA 44), some (mI p), some (mI kind), some (mI n), some (mI f), some (mI step), some (mI i), l7] [mI (wlV kind e)] x := by
        intro hv l7
        by_cases hc : inQ c' (wlV kind e) ∧ c' (31 + p) (wlV kind e).toNat = 6
        · have hv5 := hc.1.lt cI
          have aw := addW_RI cI (p := p) (j := (wlV kind e).toNat) (by omega) cW (by omega) hc.2
          have c5 := addW_5 cI (p := p) (j := (wlV kind e).toNat) (by omega) cW (by omega) hc.2
          have c41 : addW c' p (wlV kind e).toNat 1 4 = c' 1 4 := by unfold addW; rw [up_ob (by omega), up_ob (by omega)]
          have x5 : 0 ≤ x 47 p ∧ x 47 p < 5 := ⟨cR.1.1, by rw [cR.2.2.2]; exact c5⟩
          have wr := cR.add (j := (wlV kind e).toNat) (by have := hc.1.2; omega) (by omega) hc.2 x5.2
          rw [show (((wlV kind e).toNat : Nat) : Int) = wlV kind e by omega] at wr
          have e6 : rkI c' p (wlV kind e) = 6 := by unfold rkI; rw [if_pos (by omega)]; exact hc.2
          have nx := ih (i + 1) _ _ (by omega) aw.1 aw.2 (c41.trans c4) wr (mAdd_WF cF x5) (fun y y1 y2 => hq y (by
            rw [wlF, if_pos (pb_iff.mpr hc), en]
            exact y1) y2)
          refine v_istore hX eX8_wishes_88 rfl rfl ?_
          refine v_aload_n hX eX8_wishes_90 rfl ?_
          refine v_iload hX eX8_wishes_91 rfl ?_
          refine v_fnV hX eX8_wishes_93 lV_X8_104 ok_MX8_isProject ⟨by decide, rfl⟩ rfl ⟨rfl, Nat.le_of_ble_eq_true rfl⟩ (Nat.le_of_ble_eq_true rfl) (c_X8_isProject (by rw [x11]; exact hm) hv) rfl ?_
          try simp only [Int.toNat_natCast, Int.toNat_zero, Int.reduceToNat]
          refine v_ifB_eq hX eX8_wishes_96 (tgt := 109) rfl (fun c96 => False.elim ((c96 (by have := hc.1.2; omega)))) (fun c96 => ?_)
          refine v_aload_n hX eX8_wishes_99 rfl ?_
          refine v_iload_n hX eX8_wishes_100 rfl ?_
          refine v_iload hX eX8_wishes_101 rfl ?_
          refine v_fnV hX eX8_wishes_103 lV_X8_107 ok_MX8_hasWish ⟨by decide, rfl⟩ rfl ⟨rfl, Nat.le_of_ble_eq_true rfl⟩ (Nat.le_of_ble_eq_true rfl) (c_X8_hasWish (by omega) rk hv) rfl ?_
          try simp only [Int.toNat_natCast, Int.toNat_zero, Int.reduceToNat]
          refine v_ifB_eq hX eX8_wishes_106 (tgt := 116) rfl (fun c106 => ?_) (fun c106 => False.elim ((c106 e6)))
          refine v_aload_n hX eX8_wishes_116 rfl ?_
          refine v_iload_n hX eX8_wishes_117 rfl ?_
          refine v_iload hX eX8_wishes_118 rfl ?_
          refine v_fnV0 hX eX8_wishes_120 lV_X8_111 ok_MX8_add ⟨by decide, rfl⟩ rfl ⟨rfl, Nat.le_of_ble_eq_true rfl⟩ (Nat.le_of_ble_eq_true rfl) (c_X8_add (by omega) x5) rfl ?_
          try simp only [Int.toNat_natCast, Int.toNat_zero, Int.reduceToNat]
          refine v_iinc hX eX8_wishes_123 rfl rfl rfl ?_
          refine v_goto hX eX8_wishes_126 (tgt := 55) rfl ?_
          exact nx _
        · have fin := hq x (by rw [wlF, if_neg (fun z => hc (pb_iff.mp z))]; exact cR) cF
          refine v_istore hX eX8_wishes_88 rfl rfl ?_
          refine v_aload_n hX eX8_wishes_90 rfl ?_
          refine v_iload hX eX8_wishes_91 rfl ?_
          refine v_fnV hX eX8_wishes_93 lV_X8_104 ok_MX8_isProject ⟨by decide, rfl⟩ rfl ⟨rfl, Nat.le_of_ble_eq_true rfl⟩ (Nat.le_of_ble_eq_true rfl) (c_X8_isProject (by rw [x11]; exact hm) hv) rfl ?_
          try simp only [Int.toNat_natCast, Int.toNat_zero, Int.reduceToNat]
          refine v_ifB_eq hX eX8_wishes_96 (tgt := 109) rfl (fun c96 => ?_) (fun c96 => ?_)
          · refine v_aload_n hX eX8_wishes_109 rfl ?_
            refine v_getA hX eX8_wishes_110 fi_X8_17 ⟨by decide, rfl⟩ rfl ?_
            refine v_iload_n hX eX8_wishes_113 rfl ?_
            refine v_iald hX eX8_wishes_114 (by first | exact ⟨by decide, rfl⟩ | exact AR_rk (by omega)) ⟨by omega, by omega⟩ ?_
            try simp only [Int.toNat_natCast, Int.toNat_zero, Int.reduceToNat]
            exact v_ireturn hX hR eX8_wishes_115 rfl (fin)
          · refine v_aload_n hX eX8_wishes_99 rfl ?_
            refine v_iload_n hX eX8_wishes_100 rfl ?_
            refine v_iload hX eX8_wishes_101 rfl ?_
            refine v_fnV hX eX8_wishes_103 lV_X8_107 ok_MX8_hasWish ⟨by decide, rfl⟩ rfl ⟨rfl, Nat.le_of_ble_eq_true rfl⟩ (Nat.le_of_ble_eq_true rfl) (c_X8_hasWish (by omega) rk hv) rfl ?_
            try simp only [Int.toNat_natCast, Int.toNat_zero, Int.reduceToNat]
            refine v_ifB_eq hX eX8_wishes_106 (tgt := 116) rfl (fun c106 => False.elim ((hc ⟨⟨c96.1, by have := c96.2; omega⟩, Classical.byContradiction (fun z => c106 (by unfold rkI; rw [if_pos (by have := c96.2; omega)]; exact z))⟩))) (fun c106 => ?_)
            refine v_aload_n hX eX8_wishes_109 rfl ?_
            refine v_getA hX eX8_wishes_110 fi_X8_17 ⟨by decide, rfl⟩ rfl ?_
            refine v_iload_n hX eX8_wishes_113 rfl ?_
            refine v_iald hX eX8_wishes_114 (by first | exact ⟨by decide, rfl⟩ | exact AR_rk (by omega)) ⟨by omega, by omega⟩ ?_
            try simp only [Int.toNat_natCast, Int.toNat_zero, Int.reduceToNat]
            exact v_ireturn hX hR eX8_wishes_115 rfl (fin)
      refine v_iload hX eX8_wishes_55 rfl ?_
      refine v_iload_n hX eX8_wishes_57 rfl ?_
      refine v_icmp_ge hX eX8_wishes_58 (tgt := 129) rfl ⟨by omega, by omega⟩ ⟨by omega, by omega⟩ (fun c58 => False.elim ((by omega))) (fun c58 => ?_)
      refine v_iload_n hX eX8_wishes_61 rfl ?_
      refine v_iconst hX eX8_wishes_62 ?_
      refine v_icmp_eq hX eX8_wishes_63 (tgt := 129) rfl ⟨by omega, by omega⟩ ⟨by omega, by omega⟩ (fun c63 => False.elim ((h2 c63))) (fun c63 => ?_)
      refine v_iload hX eX8_wishes_66 rfl ?_
      refine v_iload hX eX8_wishes_68 rfl ?_
      refine v_iload hX eX8_wishes_70 rfl ?_
      refine v_imul hX eX8_wishes_72 ?_
      refine v_iadd hX eX8_wishes_73 ?_
      refine v_wrap ?_
      rw [ee]
      refine v_istore hX eX8_wishes_74 rfl rfl ?_
      refine v_iload_n hX eX8_wishes_76 rfl ?_
      refine v_if_ne hX eX8_wishes_77 (tgt := 86) rfl ⟨by omega, by omega⟩ (fun c77 => ?_) (fun c77 => ?_)
      · have tl := tail (by unfold wlV; rw [if_neg c77]; exact er) (some (mI e))
        rw [show wlV kind e = e from if_neg c77] at tl
        refine v_iload hX eX8_wishes_86 rfl ?_
        exact tl
      · refine v_iload hX eX8_wishes_80 rfl ?_
        refine v_i2b hX eX8_wishes_82 ?_
        refine v_goto hX eX8_wishes_83 (tgt := 88) rfl ?_
        have tl := tail (by unfold wlV; rw [if_pos c77]; exact i2b_rng _) (some (mI e))
        rw [show wlV kind e = i2b e from if_pos c77] at tl
        exact tl
  have end2 : kind = 2 → VW X 55 [some (mA 44), some (mI p), some (mI kind), some (mI n), some (mI f), some (mI step), some (mI 0), none] [] (up g 47 p 0) := by
    intro h2
    have fin := hq (some (mI (up g 47 p 0 47 p))) (up g 47 p 0) ⟨by rw [if_pos h2]; exact w0, rfl, f0⟩
    refine v_iload hX eX8_wishes_55 rfl ?_
    refine v_iload_n hX eX8_wishes_57 rfl ?_
    refine v_icmp_ge hX eX8_wishes_58 (tgt := 129) rfl ⟨by omega, by omega⟩ ⟨by omega, by omega⟩ (fun c58 => ?_) (fun c58 => ?_)
    · refine v_aload_n hX eX8_wishes_129 rfl ?_
      refine v_getA hX eX8_wishes_130 fi_X8_17 ⟨by decide, rfl⟩ rfl ?_
      refine v_iload_n hX eX8_wishes_133 rfl ?_
      refine v_iald hX eX8_wishes_134 (by first | exact ⟨by decide, rfl⟩ | exact AR_rk (by omega)) ⟨by omega, by omega⟩ ?_
      try simp only [Int.toNat_natCast, Int.toNat_zero, Int.reduceToNat]
      exact v_ireturn hX hR eX8_wishes_135 rfl (fin)
    · refine v_iload_n hX eX8_wishes_61 rfl ?_
      refine v_iconst hX eX8_wishes_62 ?_
      refine v_icmp_eq hX eX8_wishes_63 (tgt := 129) rfl ⟨by omega, by omega⟩ ⟨by omega, by omega⟩ (fun c63 => ?_) (fun c63 => False.elim ((c63 h2)))
      refine v_aload_n hX eX8_wishes_129 rfl ?_
      refine v_getA hX eX8_wishes_130 fi_X8_17 ⟨by decide, rfl⟩ rfl ?_
      refine v_iload_n hX eX8_wishes_133 rfl ?_
      refine v_iald hX eX8_wishes_134 (by first | exact ⟨by decide, rfl⟩ | exact AR_rk (by omega)) ⟨by omega, by omega⟩ ?_
      try simp only [Int.toNat_natCast, Int.toNat_zero, Int.reduceToNat]
      exact v_ireturn hX hR eX8_wishes_135 rfl (fin)
  have st : VW X 55 [some (mA 44), some (mI p), some (mI kind), some (mI n), some (mI f), some (mI step), some (mI 0), none] [] (up g 47 p 0) := by
    by_cases h2 : kind = 2
    · exact end2 h2
    · have l0 := loop h2 n.toNat 0 (clr c p) (up g 47 p 0) (by omega) cl.1 cl.2 (by rw [clr_at, if_neg (by omega), if_neg (by omega)]) w0 f0 (fun y y1 y2 => hq _ y ⟨by
        rw [if_neg h2]
        simp only [Int.natCast_zero, Int.zero_mul, Int.add_zero, w32_id hf] at y1
        exact y1, rfl, y2⟩) none
      exact l0
  show VW X 0 [some (mA 44), some (mI p), some (mI kind), some (mI n), some (mI f), some (mI step), none, none] [] h
  refine v_aload_n hX eX8_wishes_0 rfl ?_
  refine v_iconst hX eX8_wishes_1 ?_
  refine v_putI hX eX8_wishes_2 fi_X8_80 ⟨by decide, rfl⟩ ?_
  rw [hg]
  refine v_aload_n hX eX8_wishes_5 rfl ?_
  refine v_iload_n hX eX8_wishes_6 rfl ?_
  refine v_fnV hX eX8_wishes_7 lV_X8_100 ok_MX8_isPupil ⟨by decide, rfl⟩ rfl ⟨rfl, Nat.le_of_ble_eq_true rfl⟩ (Nat.le_of_ble_eq_true rfl) (c_X8_isPupil hn ⟨by omega, by omega⟩) rfl ?_
  try simp only [Int.toNat_natCast, Int.toNat_zero, Int.reduceToNat]
  refine v_ifB_eq hX eX8_wishes_10 (tgt := 31) rfl (fun c10 => False.elim ((c10 ⟨by omega, by omega⟩))) (fun c10 => ?_)
  refine v_iload_n hX eX8_wishes_13 rfl ?_
  refine v_i2l hX eX8_wishes_14 ⟨by omega, by omega⟩ ?_
  refine v_lconst (z := 0) hX eX8_wishes_15 (by decide) ?_
  refine v_ldc2 (z := 2) hX eX8_wishes_16 k_X8_115 (by decide) ?_
  refine v_fnS hX eX8_wishes_19 lS_X8_87 ok_MX8_in ⟨rfl, Nat.le_of_ble_eq_true rfl⟩ (Nat.le_of_ble_eq_true rfl) (c_X8_in ⟨by omega, by omega⟩ ⟨by omega, by omega⟩ ⟨by omega, by omega⟩) rfl ?_
  try simp only [Int.toNat_natCast, Int.toNat_zero, Int.reduceToNat]
  refine v_ifB_eq hX eX8_wishes_22 (tgt := 31) rfl (fun c22 => False.elim ((c22 hk))) (fun c22 => ?_)
  refine v_iload_n hX eX8_wishes_25 rfl ?_
  refine v_bipush hX eX8_wishes_26 (by decide) ?_
  refine v_icmp_le hX eX8_wishes_28 (tgt := 33) rfl ⟨by omega, by omega⟩ ⟨by omega, by omega⟩ (fun c28 => ?_) (fun c28 => False.elim ((by omega)))
  refine v_iload_n hX eX8_wishes_33 rfl ?_
  refine v_if_ge hX eX8_wishes_34 (tgt := 45) rfl ⟨by omega, by omega⟩ (fun c34 => ?_) (fun c34 => ?_)
  · refine v_aload_n hX eX8_wishes_45 rfl ?_
    refine v_getA hX eX8_wishes_46 fi_X8_17 ⟨by decide, rfl⟩ rfl ?_
    refine v_iload_n hX eX8_wishes_49 rfl ?_
    refine v_iconst hX eX8_wishes_50 ?_
    refine v_iast hX eX8_wishes_51 (by first | exact ⟨by decide, rfl⟩ | exact AR_rk (by omega)) ⟨by omega, by omega⟩ ?_
    try simp only [Int.toNat_natCast, Int.toNat_zero, Int.reduceToNat]
    refine v_iconst hX eX8_wishes_52 ?_
    refine v_istore hX eX8_wishes_53 rfl rfl ?_
    exact st
  · refine v_iload_n hX eX8_wishes_37 rfl ?_
    refine v_iconst hX eX8_wishes_38 ?_
    refine v_icmp_eq hX eX8_wishes_39 (tgt := 45) rfl ⟨by omega, by omega⟩ ⟨by omega, by omega⟩ (fun c39 => ?_) (fun c39 => False.elim ((by omega)))
    refine v_aload_n hX eX8_wishes_45 rfl ?_
    refine v_getA hX eX8_wishes_46 fi_X8_17 ⟨by decide, rfl⟩ rfl ?_
    refine v_iload_n hX eX8_wishes_49 rfl ?_
    refine v_iconst hX eX8_wishes_50 ?_
    refine v_iast hX eX8_wishes_51 (by first | exact ⟨by decide, rfl⟩ | exact AR_rk (by omega)) ⟨by omega, by omega⟩ ?_
    try simp only [Int.toNat_natCast, Int.toNat_zero, Int.reduceToNat]
    refine v_iconst hX eX8_wishes_52 ?_
    refine v_istore hX eX8_wishes_53 rfl rfl ?_
    exact st
set_option maxHeartbeats 2000000 in
set_option maxRecDepth 20000 in
theorem c_X8_wishes_N {d : Nat} {h g : Hp} {p kind n f step : Int} (hg : up h 44 0 0 = g) (hn : 0 ≤ g 44 1 ∧ g 44 1 ≤ 8) (hrp : rng p) (hrk : rng kind) (hrn : rng n) (bad : ¬ ((0 ≤ p ∧ p < g 44 1) ∧ (0 ≤ kind ∧ kind ≤ 2) ∧ n ≤ 20)) : Fn (d + 2) MX8_wishes [mA 44, mI p, mI kind, mI n, mI f, mI step] h (some (mI (-1))) g := by
  intro Q hq X hX hR
  show VW X 0 [some (mA 44), some (mI p), some (mI kind), some (mI n), some (mI f), some (mI step), none, none] [] h
  refine v_aload_n hX eX8_wishes_0 rfl ?_
  refine v_iconst hX eX8_wishes_1 ?_
  refine v_putI hX eX8_wishes_2 fi_X8_80 ⟨by decide, rfl⟩ ?_
  rw [hg]
  refine v_aload_n hX eX8_wishes_5 rfl ?_
  refine v_iload_n hX eX8_wishes_6 rfl ?_
  refine v_fnV hX eX8_wishes_7 lV_X8_100 ok_MX8_isPupil ⟨by decide, rfl⟩ rfl ⟨rfl, Nat.le_of_ble_eq_true rfl⟩ (Nat.le_of_ble_eq_true rfl) (c_X8_isPupil hn hrp) rfl ?_
  try simp only [Int.toNat_natCast, Int.toNat_zero, Int.reduceToNat]
  refine v_ifB_eq hX eX8_wishes_10 (tgt := 31) rfl (fun c10 => ?_) (fun c10 => ?_)
  · refine v_iconst hX eX8_wishes_31 ?_
    exact v_ireturn hX hR eX8_wishes_32 rfl (hq)
  · refine v_iload_n hX eX8_wishes_13 rfl ?_
    refine v_i2l hX eX8_wishes_14 ⟨by omega, by omega⟩ ?_
    refine v_lconst (z := 0) hX eX8_wishes_15 (by decide) ?_
    refine v_ldc2 (z := 2) hX eX8_wishes_16 k_X8_115 (by decide) ?_
    refine v_fnS hX eX8_wishes_19 lS_X8_87 ok_MX8_in ⟨rfl, Nat.le_of_ble_eq_true rfl⟩ (Nat.le_of_ble_eq_true rfl) (c_X8_in ⟨by omega, by omega⟩ ⟨by omega, by omega⟩ ⟨by omega, by omega⟩) rfl ?_
    try simp only [Int.toNat_natCast, Int.toNat_zero, Int.reduceToNat]
    refine v_ifB_eq hX eX8_wishes_22 (tgt := 31) rfl (fun c22 => ?_) (fun c22 => ?_)
    · refine v_iconst hX eX8_wishes_31 ?_
      exact v_ireturn hX hR eX8_wishes_32 rfl (hq)
    · refine v_iload_n hX eX8_wishes_25 rfl ?_
      refine v_bipush hX eX8_wishes_26 (by decide) ?_
      refine v_icmp_le hX eX8_wishes_28 (tgt := 33) rfl ⟨by omega, by omega⟩ ⟨by omega, by omega⟩ (fun c28 => False.elim ((bad ⟨c10, c22, c28⟩))) (fun c28 => ?_)
      refine v_iconst hX eX8_wishes_31 ?_
      exact v_ireturn hX hR eX8_wishes_32 rfl (hq)
set_option maxHeartbeats 2000000 in
set_option maxRecDepth 20000 in
theorem c_X8_wishes_L {d : Nat} {h g : Hp} {p kind n f step : Int} (hg : up h 44 0 0 = g) (hn : 0 ≤ g 44 1 ∧ g 44 1 ≤ 8) (hrn : rng n) (hp : 0 ≤ p ∧ p < g 44 1) (hk : 0 ≤ kind ∧ kind ≤ 1) (hn0 : n < 0) : Fn (d + 2) MX8_wishes [mA 44, mI p, mI kind, mI n, mI f, mI step] h (some (mI (-2))) g := by
  intro Q hq X hX hR
  show VW X 0 [some (mA 44), some (mI p), some (mI kind), some (mI n), some (mI f), some (mI step), none, none] [] h
  refine v_aload_n hX eX8_wishes_0 rfl ?_
  refine v_iconst hX eX8_wishes_1 ?_
  refine v_putI hX eX8_wishes_2 fi_X8_80 ⟨by decide, rfl⟩ ?_
  rw [hg]
  refine v_aload_n hX eX8_wishes_5 rfl ?_
  refine v_iload_n hX eX8_wishes_6 rfl ?_
  refine v_fnV hX eX8_wishes_7 lV_X8_100 ok_MX8_isPupil ⟨by decide, rfl⟩ rfl ⟨rfl, Nat.le_of_ble_eq_true rfl⟩ (Nat.le_of_ble_eq_true rfl) (c_X8_isPupil hn ⟨by omega, by omega⟩) rfl ?_
  try simp only [Int.toNat_natCast, Int.toNat_zero, Int.reduceToNat]
  refine v_ifB_eq hX eX8_wishes_10 (tgt := 31) rfl (fun c10 => False.elim ((c10 hp))) (fun c10 => ?_)
  refine v_iload_n hX eX8_wishes_13 rfl ?_
  refine v_i2l hX eX8_wishes_14 ⟨by omega, by omega⟩ ?_
  refine v_lconst (z := 0) hX eX8_wishes_15 (by decide) ?_
  refine v_ldc2 (z := 2) hX eX8_wishes_16 k_X8_115 (by decide) ?_
  refine v_fnS hX eX8_wishes_19 lS_X8_87 ok_MX8_in ⟨rfl, Nat.le_of_ble_eq_true rfl⟩ (Nat.le_of_ble_eq_true rfl) (c_X8_in ⟨by omega, by omega⟩ ⟨by omega, by omega⟩ ⟨by omega, by omega⟩) rfl ?_
  try simp only [Int.toNat_natCast, Int.toNat_zero, Int.reduceToNat]
  refine v_ifB_eq hX eX8_wishes_22 (tgt := 31) rfl (fun c22 => False.elim ((c22 ⟨by omega, by omega⟩))) (fun c22 => ?_)
  refine v_iload_n hX eX8_wishes_25 rfl ?_
  refine v_bipush hX eX8_wishes_26 (by decide) ?_
  refine v_icmp_le hX eX8_wishes_28 (tgt := 33) rfl ⟨by omega, by omega⟩ ⟨by omega, by omega⟩ (fun c28 => ?_) (fun c28 => False.elim ((by omega)))
  refine v_iload_n hX eX8_wishes_33 rfl ?_
  refine v_if_ge hX eX8_wishes_34 (tgt := 45) rfl ⟨by omega, by omega⟩ (fun c34 => False.elim ((by omega))) (fun c34 => ?_)
  refine v_iload_n hX eX8_wishes_37 rfl ?_
  refine v_iconst hX eX8_wishes_38 ?_
  refine v_icmp_eq hX eX8_wishes_39 (tgt := 45) rfl ⟨by omega, by omega⟩ ⟨by omega, by omega⟩ (fun c39 => False.elim ((by omega))) (fun c39 => ?_)
  refine v_bipush hX eX8_wishes_42 (by decide) ?_
  exact v_ireturn hX hR eX8_wishes_44 rfl (hq)
set_option maxHeartbeats 2000000 in
set_option maxRecDepth 20000 in
theorem c_X8_lots {d : Nat} {h g : Hp} {r : Int} (hg : up h 44 0 0 = g) (hn : 0 ≤ g 44 1 ∧ g 44 1 ≤ 8) : Fn d MX8_lots [mA 44, mI r] h (some (mI 1)) (setR g 53 (lotsF ((g 44 1).toNat - 1) r (idF (g 53) (g 44 1).toNat))) := by
  intro Q hq X hX hR
  have e1 : ∀ f, setR g 53 f 44 = g 44 := fun f => setR_ne (by decide)
  have es : ∀ (f : Nat → Int) (i j : Nat), up (up (setR g 53 f) 53 i (f j)) 53 j (f i) = setR g 53 (swF f i j) := fun f i j => by
    have := swp_setR (h := g) (k := 53) (i := i) (j := j) (f := f)
    unfold swp at this
    rw [setR_same] at this
    exact this
  have loop : ∀ (i : Nat), i < 8 → ∀ (r : Int) (f : Nat → Int) l4 l5, Q (some (mI 1)) (setR g 53 (lotsF i r f)) → ∀ r0, VW X 37 [some (mA 44), some (mI r0), some (mI r), some (mI i), l4, l5] [] (setR g 53 f) := by
    intro i
    induction i with
    | zero =>
      intro _ r f l4 l5 hq r0
      refine v_iload_n hX eX8_lots_37 rfl ?_
      refine v_if_le hX eX8_lots_38 (tgt := 96) rfl ⟨by omega, by omega⟩ (fun c38 => ?_) (fun c38 => False.elim ((by omega)))
      refine v_iconst hX eX8_lots_96 ?_
      exact v_zreturn hX hR eX8_lots_97 rfl (by omega) (hq)
    | succ i ih =>
      intro hi r f l4 l5 hq r0
      have hj := lotJ_rng (nxtR r) (i := i + 1) hi
      refine v_iload_n hX eX8_lots_37 rfl ?_
      refine v_if_le hX eX8_lots_38 (tgt := 96) rfl ⟨by omega, by omega⟩ (fun c38 => False.elim ((by omega))) (fun c38 => ?_)
      refine v_iload_n hX eX8_lots_41 rfl ?_
      refine v_ldc (z := 1103515245) hX eX8_lots_42 k_X8_120 (by decide) ?_
      refine v_imul hX eX8_lots_44 ?_
      refine v_sipush hX eX8_lots_45 (by decide) ?_
      refine v_iadd hX eX8_lots_48 ?_
      refine v_wrap ?_
      rw [show w32 (r * 1103515245 + 12345) = nxtR r from rfl]
      refine v_istore_n hX eX8_lots_49 rfl rfl ?_
      refine v_iload_n hX eX8_lots_50 rfl ?_
      refine v_bipush hX eX8_lots_51 (by decide) ?_
      refine v_iushr hX eX8_lots_53 ?_
      refine v_iload_n hX eX8_lots_54 rfl ?_
      refine v_iconst hX eX8_lots_55 ?_
      refine v_iadd hX eX8_lots_56 ?_
      refine v_irem hX eX8_lots_57 ⟨by omega, by omega, by omega⟩ ?_
      rw [show irem (bushr (nxtR r) 16) (((i + 1 : Nat) : Int) + 1) = lotJ (nxtR r) (i + 1) from rfl]
      refine v_istore hX eX8_lots_58 rfl rfl ?_
      refine v_aload_n hX eX8_lots_60 rfl ?_
      refine v_getA hX eX8_lots_61 fi_X8_35 ⟨by decide, rfl⟩ rfl ?_
      refine v_iload_n hX eX8_lots_64 rfl ?_
      refine v_iald hX eX8_lots_65 (by first | exact ⟨by decide, rfl⟩ | exact AR_rk (by omega)) ⟨by omega, by omega⟩ ?_
      try simp only [Int.toNat_natCast, Int.toNat_zero, Int.reduceToNat]
      rw [setR_same]
      refine v_istore hX eX8_lots_66 rfl rfl ?_
      refine v_aload_n hX eX8_lots_68 rfl ?_
      refine v_getA hX eX8_lots_69 fi_X8_35 ⟨by decide, rfl⟩ rfl ?_
      refine v_iload_n hX eX8_lots_72 rfl ?_
      refine v_aload_n hX eX8_lots_73 rfl ?_
      refine v_getA hX eX8_lots_74 fi_X8_35 ⟨by decide, rfl⟩ rfl ?_
      refine v_iload hX eX8_lots_77 rfl ?_
      refine v_iald hX eX8_lots_79 (by first | exact ⟨by decide, rfl⟩ | exact AR_rk (by omega)) ⟨by omega, by omega⟩ ?_
      try simp only [Int.toNat_natCast, Int.toNat_zero, Int.reduceToNat]
      rw [setR_same]
      refine v_iast hX eX8_lots_80 (by first | exact ⟨by decide, rfl⟩ | exact AR_rk (by omega)) ⟨by omega, by omega⟩ ?_
      try simp only [Int.toNat_natCast, Int.toNat_zero, Int.reduceToNat]
      refine v_aload_n hX eX8_lots_81 rfl ?_
      refine v_getA hX eX8_lots_82 fi_X8_35 ⟨by decide, rfl⟩ rfl ?_
      refine v_iload hX eX8_lots_85 rfl ?_
      refine v_iload hX eX8_lots_87 rfl ?_
      refine v_iast hX eX8_lots_89 (by first | exact ⟨by decide, rfl⟩ | exact AR_rk (by omega)) ⟨by omega, by omega⟩ ?_
      try simp only [Int.toNat_natCast, Int.toNat_zero, Int.reduceToNat]
      rw [es]
      refine v_iinc hX eX8_lots_90 rfl rfl rfl ?_
      rw [show (((i + 1 : Nat) : Int) + -1) = (i : Int) by omega]
      refine v_goto hX eX8_lots_93 (tgt := 37) rfl ?_
      exact ih (by omega) _ _ _ _ hq _
  have loop1 : ∀ i : Nat, i ≤ (g 44 1).toNat → ∀ r0, VW X 9 [some (mA 44), some (mI r0), some (mI r), some (mI i), none, none] [] (setR g 53 (idF (g 53) i)) := by
    intro i hi r0
    revert i
    refine loop_up _ ?_ ?_
    · by_cases h0 : (g 44 1).toNat = 0
      · have e0 : g 44 1 = 0 := by omega
        rw [e0] at hq
        rw [h0]
        refine v_iload_n hX eX8_lots_9 rfl ?_
        refine v_aload_n hX eX8_lots_10 rfl ?_
        refine v_getI hX eX8_lots_11 fi_X8_84 ⟨by decide, rfl⟩ ?_
        rw [e1, e0]
        refine v_icmp_ge hX eX8_lots_14 (tgt := 30) rfl ⟨by omega, by omega⟩ ⟨by omega, by omega⟩ (fun c14 => ?_) (fun c14 => False.elim ((by omega)))
        refine v_aload_n hX eX8_lots_30 rfl ?_
        refine v_getI hX eX8_lots_31 fi_X8_84 ⟨by decide, rfl⟩ ?_
        rw [e1, e0]
        refine v_iconst hX eX8_lots_34 ?_
        refine v_isub hX eX8_lots_35 ?_
        refine v_istore_n hX eX8_lots_36 rfl rfl ?_
        refine v_iload_n hX eX8_lots_37 rfl ?_
        refine v_if_le hX eX8_lots_38 (tgt := 96) rfl ⟨by omega, by omega⟩ (fun c38 => ?_) (fun c38 => False.elim ((by omega)))
        refine v_iconst hX eX8_lots_96 ?_
        exact v_zreturn hX hR eX8_lots_97 rfl (by omega) (hq)
      · refine v_iload_n hX eX8_lots_9 rfl ?_
        refine v_aload_n hX eX8_lots_10 rfl ?_
        refine v_getI hX eX8_lots_11 fi_X8_84 ⟨by decide, rfl⟩ ?_
        rw [e1]
        refine v_icmp_ge hX eX8_lots_14 (tgt := 30) rfl ⟨by omega, by omega⟩ ⟨by omega, by omega⟩ (fun c14 => ?_) (fun c14 => False.elim ((by omega)))
        refine v_aload_n hX eX8_lots_30 rfl ?_
        refine v_getI hX eX8_lots_31 fi_X8_84 ⟨by decide, rfl⟩ ?_
        rw [e1]
        refine v_iconst hX eX8_lots_34 ?_
        refine v_isub hX eX8_lots_35 ?_
        refine v_istore_n hX eX8_lots_36 rfl rfl ?_
        rw [show g 44 1 - 1 = (((g 44 1).toNat - 1 : Nat) : Int) by omega]
        exact loop _ (by omega) _ _ _ _ hq _
    · intro i hi ih
      refine v_iload_n hX eX8_lots_9 rfl ?_
      refine v_aload_n hX eX8_lots_10 rfl ?_
      refine v_getI hX eX8_lots_11 fi_X8_84 ⟨by decide, rfl⟩ ?_
      rw [e1]
      refine v_icmp_ge hX eX8_lots_14 (tgt := 30) rfl ⟨by omega, by omega⟩ ⟨by omega, by omega⟩ (fun c14 => False.elim ((by omega))) (fun c14 => ?_)
      refine v_aload_n hX eX8_lots_17 rfl ?_
      refine v_getA hX eX8_lots_18 fi_X8_35 ⟨by decide, rfl⟩ rfl ?_
      refine v_iload_n hX eX8_lots_21 rfl ?_
      refine v_iload_n hX eX8_lots_22 rfl ?_
      refine v_iast hX eX8_lots_23 (by first | exact ⟨by decide, rfl⟩ | exact AR_rk (by omega)) ⟨by omega, by omega⟩ ?_
      try simp only [Int.toNat_natCast, Int.toNat_zero, Int.reduceToNat]
      rw [idF_s]
      refine v_iinc hX eX8_lots_24 rfl rfl rfl ?_
      refine v_goto hX eX8_lots_27 (tgt := 9) rfl ?_
      exact ih
  have l0 := loop1 0 (by omega) r
  rw [show setR g 53 (idF (g 53) ((0 : Nat))) = g from by funext a b; by_cases ha : a = 53 <;> simp [setR, idF, ha]] at l0
  show VW X 0 [some (mA 44), some (mI r), none, none, none, none] [] h
  refine v_aload_n hX eX8_lots_0 rfl ?_
  refine v_iconst hX eX8_lots_1 ?_
  refine v_putI hX eX8_lots_2 fi_X8_80 ⟨by decide, rfl⟩ ?_
  rw [hg]
  refine v_iload_n hX eX8_lots_5 rfl ?_
  refine v_istore_n hX eX8_lots_6 rfl rfl ?_
  refine v_iconst hX eX8_lots_7 ?_
  refine v_istore_n hX eX8_lots_8 rfl rfl ?_
  exact l0
set_option maxHeartbeats 2000000 in
set_option maxRecDepth 20000 in
theorem c_X8_count {d : Nat} {h g : Hp} {w : Int} (hg : up h 44 0 0 = g) (hI : RI g) (hr : RLr g) (h31 : g 44 31 = g 3 2) (h36 : g 44 36 = g 0 7) (hw : rng w) : Fn (d + 1) MX8_count [mA 44, mI w] h (some (mI (cntW g w))) g := by
  intro Q hq X hX hR
  have en := hr.n
  have eq := hr.q
  have hmm := hI.q
  have fin : VW X 40 [some (mA 44), some (mI w), some (mI (cntF (onF g) (g 1 4).toNat : Nat)), some (mI (g 1 4))] [] g := by
    by_cases hd : 0 ≤ w ∧ w ≤ 5
    · rcases (show w = 0 ∨ w = 1 ∨ w = 2 ∨ w = 3 ∨ w = 4 ∨ w = 5 by omega) with rfl | rfl | rfl | rfl | rfl | rfl
      · refine v_iload_n hX eX8_count_40 rfl ?_
        refine v_tsw hX eX8_count_41 (tgt := 80) (by decide) (by decide) ?_
        refine v_aload_n hX eX8_count_80 rfl ?_
        refine v_getI hX eX8_count_81 fi_X8_84 ⟨by decide, rfl⟩ ?_
        exact v_ireturn hX hR eX8_count_84 rfl (q_i (by rw [en]; rfl) hq)
      · refine v_iload_n hX eX8_count_40 rfl ?_
        refine v_tsw hX eX8_count_41 (tgt := 85) (by decide) (by decide) ?_
        refine v_aload_n hX eX8_count_85 rfl ?_
        refine v_getI hX eX8_count_86 fi_X8_91 ⟨by decide, rfl⟩ ?_
        exact v_ireturn hX hR eX8_count_89 rfl (q_i (by rw [eq]; rfl) hq)
      · refine v_iload_n hX eX8_count_40 rfl ?_
        refine v_tsw hX eX8_count_41 (tgt := 90) (by decide) (by decide) ?_
        refine v_aload_n hX eX8_count_90 rfl ?_
        refine v_fnV hX eX8_count_91 lV_X8_121 ok_MX8_present ⟨by decide, rfl⟩ rfl ⟨rfl, Nat.le_of_ble_eq_true rfl⟩ (Nat.le_of_ble_eq_true rfl) (c_X8_present hI hr) rfl ?_
        try simp only [Int.toNat_natCast, Int.toNat_zero, Int.reduceToNat]
        exact v_ireturn hX hR eX8_count_94 rfl (q_i (by rfl) hq)
      · refine v_iload_n hX eX8_count_40 rfl ?_
        refine v_tsw hX eX8_count_41 (tgt := 95) (by decide) (by decide) ?_
        refine v_aload_n hX eX8_count_95 rfl ?_
        refine v_getI hX eX8_count_96 fi_X8_125 ⟨by decide, rfl⟩ ?_
        exact v_ireturn hX hR eX8_count_99 rfl (q_i (by rw [h31]; rfl) hq)
      · refine v_iload_n hX eX8_count_40 rfl ?_
        refine v_tsw hX eX8_count_41 (tgt := 100) (by decide) (by decide) ?_
        refine v_aload_n hX eX8_count_100 rfl ?_
        refine v_getI hX eX8_count_101 fi_X8_128 ⟨by decide, rfl⟩ ?_
        exact v_ireturn hX hR eX8_count_104 rfl (q_i (by rw [h36]; rfl) hq)
      · refine v_iload_n hX eX8_count_40 rfl ?_
        refine v_tsw hX eX8_count_41 (tgt := 105) (by decide) (by decide) ?_
        refine v_iload_n hX eX8_count_105 rfl ?_
        exact v_ireturn hX hR eX8_count_106 rfl (q_i (by rfl) hq)
    · refine v_iload_n hX eX8_count_40 rfl ?_
      refine v_tswD hX eX8_count_41 (tgt := 107) ⟨by omega, by omega, by omega⟩ rfl ?_
      refine v_iconst hX eX8_count_107 ?_
      exact v_ireturn hX hR eX8_count_108 rfl (q_i (by unfold cntW; rw [if_neg (by omega), if_neg (by omega), if_neg (by omega), if_neg (by omega), if_neg (by omega), if_neg (by omega)]) hq)
  have loop : ∀ i : Nat, i ≤ (g 1 4).toNat → VW X 9 [some (mA 44), some (mI w), some (mI (cntF (onF g) i : Nat)), some (mI i)] [] g := by
    refine loop_up _ ?_ ?_
    · refine v_iload_n hX eX8_count_9 rfl ?_
      refine v_aload_n hX eX8_count_10 rfl ?_
      refine v_getI hX eX8_count_11 fi_X8_91 ⟨by decide, rfl⟩ ?_
      refine v_icmp_ge hX eX8_count_14 (tgt := 40) rfl ⟨by omega, by omega⟩ ⟨by omega, by omega⟩ (fun c14 => ?_) (fun c14 => False.elim ((by omega)))
      rw [show (((g 1 4).toNat : Nat) : Int) = g 1 4 by omega]
      exact fin
    · intro i hi ih
      have p5 := (hI.pr (p := i) (by omega)).2.2.2.2.2.1
      have e59 := (hr.pr hi).2.2.2.2.2
      refine v_iload_n hX eX8_count_9 rfl ?_
      refine v_aload_n hX eX8_count_10 rfl ?_
      refine v_getI hX eX8_count_11 fi_X8_91 ⟨by decide, rfl⟩ ?_
      refine v_icmp_ge hX eX8_count_14 (tgt := 40) rfl ⟨by omega, by omega⟩ ⟨by omega, by omega⟩ (fun c14 => False.elim ((by omega))) (fun c14 => ?_)
      refine v_iload_n hX eX8_count_17 rfl ?_
      refine v_aload_n hX eX8_count_18 rfl ?_
      refine v_getA hX eX8_count_19 fi_X8_53 ⟨by decide, rfl⟩ rfl ?_
      refine v_iload_n hX eX8_count_22 rfl ?_
      refine v_zald hX eX8_count_23 (by first | exact ⟨by decide, rfl⟩ | exact AR_rk (by omega)) ⟨by omega, by omega⟩ ?_
      try simp only [Int.toNat_natCast, Int.toNat_zero, Int.reduceToNat]
      refine v_if_eq hX eX8_count_24 (tgt := 31) rfl ⟨by omega, by omega⟩ (fun c24 => ?_) (fun c24 => ?_)
      · refine v_iconst hX eX8_count_31 ?_
        rw [show cntF (onF g) (i + 1) = cntF (onF g) i from by rw [cntF, if_neg (by simp [onF]; omega), Nat.add_zero]] at ih
        refine v_iadd hX eX8_count_32 ?_
        rw [Int.add_zero]
        refine v_istore_n hX eX8_count_33 rfl rfl ?_
        refine v_iinc hX eX8_count_34 rfl rfl rfl ?_
        exact v_goto hX eX8_count_37 (tgt := 9) rfl ih
      · refine v_iconst hX eX8_count_27 ?_
        refine v_goto hX eX8_count_28 (tgt := 32) rfl ?_
        rw [show cntF (onF g) (i + 1) = cntF (onF g) i + 1 from by rw [cntF, if_pos (by simp [onF]; omega)]] at ih
        refine v_iadd hX eX8_count_32 ?_
        refine v_istore_n hX eX8_count_33 rfl rfl ?_
        refine v_iinc hX eX8_count_34 rfl rfl rfl ?_
        exact v_goto hX eX8_count_37 (tgt := 9) rfl ih
  show VW X 0 [some (mA 44), some (mI w), none, none] [] h
  refine v_aload_n hX eX8_count_0 rfl ?_
  refine v_iconst hX eX8_count_1 ?_
  refine v_putI hX eX8_count_2 fi_X8_80 ⟨by decide, rfl⟩ ?_
  rw [hg]
  refine v_iconst hX eX8_count_5 ?_
  refine v_istore_n hX eX8_count_6 rfl rfl ?_
  refine v_iconst hX eX8_count_7 ?_
  refine v_istore_n hX eX8_count_8 rfl rfl ?_
  exact loop 0 (by omega)
theorem CP.rf {h : Hp} : CP h h := fun _ _ => rfl
set_option maxHeartbeats 2000000 in
set_option maxRecDepth 20000 in
theorem c_X8_wrong {d : Nat} {h g : Hp} (hg : up h 44 0 0 = g) (hI : RI g) (r : RLr g) (hl : LDI g) (hApS : ∀ a, a < (g 1 3).toNat → apB g a a = false) (ht : ∀ p, p < (g 1 3).toNat → g 50 p = g 4 p ∧ -1 ≤ g 4 p ∧ g 4 p < g 1 4) : Fn (d + 3) MX8_wrong [mA 44] h (some (mI (flt g))) g := by
  intro Q hq X hX hR
  show VW X 0 [some (mA 44)] [] h
  refine v_aload_n hX eX8_wrong_0 rfl ?_
  refine v_iconst hX eX8_wrong_1 ?_
  refine v_putI hX eX8_wrong_2 fi_X8_80 ⟨by decide, rfl⟩ ?_
  rw [hg]
  refine v_aload_n hX eX8_wrong_5 rfl ?_
  refine v_aload_n hX eX8_wrong_6 rfl ?_
  refine v_getA hX eX8_wrong_7 fi_X8_26 ⟨by decide, rfl⟩ rfl ?_
  refine v_fnV hX eX8_wrong_10 lV_X8_157 ok_MX8_wrongOf ⟨by decide, rfl⟩ rfl ⟨rfl, Nat.le_of_ble_eq_true rfl⟩ (Nat.le_of_ble_eq_true rfl) (c_X8_wrongOf hI r hl ⟨by decide, rfl⟩ CP.rf hApS ht) rfl ?_
  try simp only [Int.toNat_natCast, Int.toNat_zero, Int.reduceToNat]
  exact v_ireturn hX hR eX8_wrong_13 rfl (hq)
