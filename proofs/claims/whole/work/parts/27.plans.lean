/-! best, plans, change, swap -/
def FDI (h : Hp) : Prop := ∀ p, p < 8 → -1 ≤ h 16 p ∧ h 16 p < 5
def FOK (f : Nat → Int) : Prop := ∀ p, p < 8 → -1 ≤ f p ∧ f p < 5
theorem jst_fok {e : Hp} {lw : Int} {t : Nat → Int} {s : SGT} (ht : FOK t) (hs : FOK s.2.2.2) : FOK (jst e lw t s).2.2.2 := by
  unfold jst
  split
  · split
    · exact hs
    · intro p hp
      show -1 ≤ cpy t s.2.2.2 p ∧ cpy t s.2.2.2 p < 5
      rw [cpy, if_pos hp]
      exact ht p hp
  · exact hs
theorem ext_fok {e : Hp} {lw : Int} (hQ : (e 2 7).toNat ≤ 5) : ∀ (k : Nat) (t : Nat → Int) (s : SGT), FOK t → FOK s.2.2.2 → FOK (ext e lw k t s).2.2.2
  | 0, t, s, ht, hs => jst_fok ht hs
  | k + 1, t, s, ht, hs => by
    rw [ext]
    split
    · have : ∀ n, n ≤ (e 2 7).toNat → FOK (foldq (fun q s => ext e lw k (setT t (7 - k) q) s) n s).2.2.2 := by
        intro n
        induction n with
        | zero => intro _; exact hs
        | succ n ih =>
          intro hn
          refine ext_fok hQ k _ _ (fun p hp => ?_) (ih (by omega))
          unfold setT
          split
          · omega
          · exact ht p hp
      exact this _ (Nat.le_refl _)
    · exact ext_fok hQ k t s ht hs
noncomputable def bsR (h : Hp) : SGT := ext (PRH h) 1 8 (PRH h 15) (ABV, ABV, 0, PRH h 16)
theorem BG_ne {h g : Hp} (b : BG h g) {a : Nat} (h1 : a ≠ 2) (h2 : a ≠ 14) (h3 : a ≠ 15) (h4 : a ≠ 16) : g a = h a := b.1 a h1 h2 h3 h4
set_option maxHeartbeats 2000000 in
set_option maxRecDepth 20000 in
theorem c_X7_best {d : Nat} {h : Hp} (hI : RI h) (hS : SCI h) (hP : ∀ p, p < (h 1 3).toNat → 0 ≤ plc h p ∧ plc h p ≤ 7) : Fr (d + 13) MX7_best [mA 0] h (fun r g => ∃ g0, BG (PRH h) g0 ∧ SG g0 = bsR h ∧ ((0 < (bsR h).2.2.1 ∧ r = some (mI 1) ∧ g = cpyH g0 16 4 8) ∨ (¬ 0 < (bsR h).2.2.1 ∧ r = some (mI 0) ∧ g = g0))) := by
  intro Q hq X hX hR
  have hE := PRH_ENV hI hS
  show VW X 0 [some (mA 0)] [] h
  refine v_aload_n hX eX7_best_0 rfl ?_
  refine v_getA hX eX7_best_1 fi_X7_19 ⟨by decide, rfl⟩ rfl ?_
  refine v_aload_n hX eX7_best_4 rfl ?_
  refine v_getA hX eX7_best_5 fi_X7_10 ⟨by decide, rfl⟩ rfl ?_
  refine v_fnV0 hX eX7_best_8 lV_X7_144 ok_MX6_prepare ⟨by decide, rfl⟩ rfl ⟨rfl, Nat.le_of_ble_eq_true rfl⟩ (Nat.le_of_ble_eq_true rfl) (c_X6_prepare hI hP) rfl ?_
  try simp only [Int.toNat_natCast, Int.toNat_zero, Int.reduceToNat]
  refine v_aload_n hX eX7_best_11 rfl ?_
  refine v_getA hX eX7_best_12 fi_X7_19 ⟨by decide, rfl⟩ rfl ?_
  refine v_frV hX eX7_best_15 lV_X7_148 ok_MX6_findBest ⟨by decide, rfl⟩ rfl ⟨rfl, Nat.le_of_ble_eq_true rfl⟩ (Nat.le_of_ble_eq_true rfl) (c_X6_findBest hE) rfl ?_
  rintro r g0 ⟨rfl, m1, m2, m3⟩
  show VW X 18 _ [mI (b01 (0 < (bsR h).2.2.1))] g0
  refine v_ifB_ne hX eX7_best_18 (tgt := 23) rfl (fun c18 => ?_) (fun c18 => ?_)
  · refine v_aload_n hX eX7_best_23 rfl ?_
    refine v_getA hX eX7_best_24 fi_X7_19 ⟨by decide, rfl⟩ rfl ?_
    refine v_aload_n hX eX7_best_27 rfl ?_
    refine v_getA hX eX7_best_28 fi_X7_30 ⟨by decide, rfl⟩ rfl ?_
    refine v_fnV0 hX eX7_best_31 lV_X7_152 ok_MX6_copyFound ⟨by decide, rfl⟩ rfl ⟨rfl, Nat.le_of_ble_eq_true rfl⟩ (Nat.le_of_ble_eq_true rfl) (c_X6_copyFound) rfl ?_
    try simp only [Int.toNat_natCast, Int.toNat_zero, Int.reduceToNat]
    refine v_iconst hX eX7_best_34 ?_
    exact v_ireturn hX hR eX7_best_35 rfl (hq _ _ ⟨g0, m1, m3, Or.inl ⟨c18, rfl, rfl⟩⟩)
  · refine v_iconst hX eX7_best_21 ?_
    exact v_ireturn hX hR eX7_best_22 rfl (hq _ _ ⟨g0, m1, m3, Or.inr ⟨c18, rfl, rfl⟩⟩)
noncomputable def plR (h : Hp) (w : Int) : SGT := if w = 0 then ext (PRH h) 0 8 (PRH h 15) (ABV, ABV, 0, PRH h 16) else ext (PRH h) 0 8 (PRH h 15) (cU2 (PRH h) (PRH h 4) 8, lU (PRH h) (PRH h 4) 8, 0, PRH h 16)
set_option maxHeartbeats 2000000 in
set_option maxRecDepth 20000 in
theorem c_X7_plans {d : Nat} {h : Hp} {w : Int} (hI : RI h) (hL : PLI h) (hS : SCI h) (hP : ∀ p, p < (h 1 3).toNat → 0 ≤ plc h p ∧ plc h p ≤ 7) (hw : w = 0 ∨ w = 1) : Fr (d + 13) MX7_plans [mA 0, mI w] h (fun r g => r = some (mI (plR h w).2.2.1) ∧ BG (PRH h) g ∧ SG g = plR h w) := by
  intro Q hq X hX hR
  have hE := PRH_ENV hI hS
  have hL2 : PLI (PRH h) := by
    intro p hp
    rw [show PRH h 4 = h 4 from PRi_ne (by decide) (by decide) (by decide) (by decide) (by decide) (by decide) (by decide)]
    exact hL p hp
  show VW X 0 [some (mA 0), some (mI w)] [] h
  rcases hw with rfl | rfl
  · refine v_iload_n hX eX7_plans_0 rfl ?_
    refine v_if_lt hX eX7_plans_1 (tgt := 9) rfl ⟨by omega, by omega⟩ (fun c1 => False.elim ((by omega))) (fun c1 => ?_)
    refine v_iload_n hX eX7_plans_4 rfl ?_
    refine v_iconst hX eX7_plans_5 ?_
    refine v_icmp_le hX eX7_plans_6 (tgt := 11) rfl ⟨by omega, by omega⟩ ⟨by omega, by omega⟩ (fun c6 => ?_) (fun c6 => False.elim ((by omega)))
    refine v_aload_n hX eX7_plans_11 rfl ?_
    refine v_getA hX eX7_plans_12 fi_X7_19 ⟨by decide, rfl⟩ rfl ?_
    refine v_aload_n hX eX7_plans_15 rfl ?_
    refine v_getA hX eX7_plans_16 fi_X7_10 ⟨by decide, rfl⟩ rfl ?_
    refine v_fnV0 hX eX7_plans_19 lV_X7_144 ok_MX6_prepare ⟨by decide, rfl⟩ rfl ⟨rfl, Nat.le_of_ble_eq_true rfl⟩ (Nat.le_of_ble_eq_true rfl) (c_X6_prepare hI hP) rfl ?_
    try simp only [Int.toNat_natCast, Int.toNat_zero, Int.reduceToNat]
    refine v_iload_n hX eX7_plans_22 rfl ?_
    refine v_if_ne hX eX7_plans_23 (tgt := 36) rfl ⟨by omega, by omega⟩ (fun c23 => False.elim ((by omega))) (fun c23 => ?_)
    refine v_aload_n hX eX7_plans_26 rfl ?_
    refine v_getA hX eX7_plans_27 fi_X7_19 ⟨by decide, rfl⟩ rfl ?_
    refine v_frV hX eX7_plans_30 lV_X7_156 ok_MX6_countRight ⟨by decide, rfl⟩ rfl ⟨rfl, Nat.le_of_ble_eq_true rfl⟩ (Nat.le_of_ble_eq_true rfl) (c_X6_countRight hE) rfl ?_
    rintro r g0 ⟨rfl, m1, m2, m3⟩
    show VW X 33 _ [mI (plR h 0).2.2.1] g0
    refine v_goto hX eX7_plans_33 (tgt := 47) rfl ?_
    exact v_ireturn hX hR eX7_plans_47 rfl (hq _ _ ⟨rfl, m1, m3⟩)
  · refine v_iload_n hX eX7_plans_0 rfl ?_
    refine v_if_lt hX eX7_plans_1 (tgt := 9) rfl ⟨by omega, by omega⟩ (fun c1 => False.elim ((by omega))) (fun c1 => ?_)
    refine v_iload_n hX eX7_plans_4 rfl ?_
    refine v_iconst hX eX7_plans_5 ?_
    refine v_icmp_le hX eX7_plans_6 (tgt := 11) rfl ⟨by omega, by omega⟩ ⟨by omega, by omega⟩ (fun c6 => ?_) (fun c6 => False.elim ((by omega)))
    refine v_aload_n hX eX7_plans_11 rfl ?_
    refine v_getA hX eX7_plans_12 fi_X7_19 ⟨by decide, rfl⟩ rfl ?_
    refine v_aload_n hX eX7_plans_15 rfl ?_
    refine v_getA hX eX7_plans_16 fi_X7_10 ⟨by decide, rfl⟩ rfl ?_
    refine v_fnV0 hX eX7_plans_19 lV_X7_144 ok_MX6_prepare ⟨by decide, rfl⟩ rfl ⟨rfl, Nat.le_of_ble_eq_true rfl⟩ (Nat.le_of_ble_eq_true rfl) (c_X6_prepare hI hP) rfl ?_
    try simp only [Int.toNat_natCast, Int.toNat_zero, Int.reduceToNat]
    refine v_iload_n hX eX7_plans_22 rfl ?_
    refine v_if_ne hX eX7_plans_23 (tgt := 36) rfl ⟨by omega, by omega⟩ (fun c23 => ?_) (fun c23 => False.elim ((by omega)))
    refine v_aload_n hX eX7_plans_36 rfl ?_
    refine v_getA hX eX7_plans_37 fi_X7_19 ⟨by decide, rfl⟩ rfl ?_
    refine v_aload_n hX eX7_plans_40 rfl ?_
    refine v_getA hX eX7_plans_41 fi_X7_30 ⟨by decide, rfl⟩ rfl ?_
    refine v_frV hX eX7_plans_44 lV_X7_159 ok_MX6_countBetter ⟨by decide, rfl⟩ rfl ⟨rfl, Nat.le_of_ble_eq_true rfl⟩ (Nat.le_of_ble_eq_true rfl) (c_X6_countBetter hE hL2) rfl ?_
    rintro r g0 ⟨rfl, m1, m2, m3⟩
    show VW X 47 _ [mI (plR h 1).2.2.1] g0
    exact v_ireturn hX hR eX7_plans_47 rfl (hq _ _ ⟨rfl, m1, m3⟩)
set_option maxHeartbeats 2000000 in
set_option maxRecDepth 20000 in
theorem c_X7_plans_N {d : Nat} {h : Hp} {w : Int} (hw : rng w) (bad : ¬ (w = 0 ∨ w = 1)) : Fn (d + 13) MX7_plans [mA 0, mI w] h (some (mI (-1))) h := by
  intro Q hq X hX hR
  show VW X 0 [some (mA 0), some (mI w)] [] h
  by_cases h0 : w < 0
  · refine v_iload_n hX eX7_plans_0 rfl ?_
    refine v_if_lt hX eX7_plans_1 (tgt := 9) rfl ⟨by omega, by omega⟩ (fun c1 => ?_) (fun c1 => False.elim ((by omega)))
    refine v_iconst hX eX7_plans_9 ?_
    exact v_ireturn hX hR eX7_plans_10 rfl (hq)
  · refine v_iload_n hX eX7_plans_0 rfl ?_
    refine v_if_lt hX eX7_plans_1 (tgt := 9) rfl ⟨by omega, by omega⟩ (fun c1 => False.elim ((by omega))) (fun c1 => ?_)
    refine v_iload_n hX eX7_plans_4 rfl ?_
    refine v_iconst hX eX7_plans_5 ?_
    refine v_icmp_le hX eX7_plans_6 (tgt := 11) rfl ⟨by omega, by omega⟩ ⟨by omega, by omega⟩ (fun c6 => False.elim ((by omega))) (fun c6 => ?_)
    refine v_iconst hX eX7_plans_9 ?_
    exact v_ireturn hX hR eX7_plans_10 rfl (hq)
/-! change -/
noncomputable def chH (h : Hp) (i : Nat) : Hp := fun a b => if a = 19 ∧ b < 6 * i ∧ b % 6 < 5 ∧ h 4 (b / 6) ≠ -1 ∧ ((b % 6 : Nat) : Int) ≠ h 4 (b / 6) then PRH h 19 b + 1099511627776 else PRH h a b
theorem chH_ne {h : Hp} {i a : Nat} (h1 : a ≠ 19) : chH h i a = PRH h a := by
  funext b
  rw [chH, if_neg (fun z => h1 z.1)]
theorem chH_s {h : Hp} {i : Nat} : CMn (chH h i) i (h 4 i) 5 = chH h (i + 1) := by
  funext a b
  unfold CMn
  by_cases hb : 6 * i ≤ b ∧ b < 6 * i + 6
  · have d1 : b / 6 = i := by omega
    have d2 : b - 6 * i = b % 6 := by omega
    rw [d2]
    have e0 : ∀ a, chH h i a b = PRH h a b := fun a => by rw [chH, if_neg (by omega)]
    rw [e0, e0]
    unfold chH
    rw [d1]
    by_cases hc : a = 19 ∧ b % 6 < 5 ∧ h 4 i ≠ -1 ∧ ((b % 6 : Nat) : Int) ≠ h 4 i
    · rw [if_pos ⟨hc.1, hb.1, by omega, hc.2.2.1, hc.2.2.2⟩, if_pos ⟨hc.1, by omega, hc.2.1, hc.2.2.1, hc.2.2.2⟩]
    · rw [if_neg (fun z => hc ⟨z.1, by omega, z.2.2.2.1, z.2.2.2.2⟩), if_neg (fun z => hc ⟨z.1, z.2.2.1, z.2.2.2.1, z.2.2.2.2⟩)]
  · rw [if_neg (by omega)]
    unfold chH
    have : (b < 6 * (i + 1)) ↔ b < 6 * i := by omega
    simp only [this]
theorem chH_ENV {h : Hp} (hI : RI h) (hS : SCI h) {i : Nat} (hi : i ≤ (h 1 3).toNat) : ENV (chH h i) := by
  obtain ⟨e1, e2, e3, e4, e5, e6⟩ := PRH_ENV hI hS
  have hn := hI.n
  refine ⟨by rw [chH_ne (by decide)]; exact e1, by rw [chH_ne (by decide)]; exact e2, fun j hj => ?_, by rw [chH_ne (by decide)]; exact e4, by rw [chH_ne (by decide), chH_ne (by decide)]; exact e5, by rw [chH_ne (by decide), chH_ne (by decide)]; exact e6⟩
  have e := e3 j hj
  rw [chH_ne (a := 20) (by decide)]
  unfold chH
  split
  · rename_i z
    have : PRH h 19 j = csC h (j / 6) (j % 6) := by rw [PRH_19, if_pos (by omega)]
    have c := cstV_rng (rkc_rng hI (p := j / 6) (c := j % 6) (by omega)) (hI.pu (p := j / 6) (by omega)).2.2.1
    rw [this]
    unfold csC
    omega
  · exact e
noncomputable def crR (h : Hp) : SGT := ext (chH h (h 1 3).toNat) 1 8 (PRH h 15) (ABV, ABV, 0, PRH h 16)
def mvN (e : Hp) (pl f : Nat → Int) : Nat → Bool := fun p => isP e p && (decide (pl p ≠ -1) && decide (pl p ≠ f p))
set_option maxHeartbeats 2000000 in
set_option maxRecDepth 20000 in
theorem c_X7_change {d : Nat} {h : Hp} (hI : RI h) (hL : PLI h) (hS : SCI h) (hF : FDI h) (hP : ∀ p, p < (h 1 3).toNat → 0 ≤ plc h p ∧ plc h p ≤ 7) : Fr (d + 13) MX7_change [mA 0] h (fun r g => ∃ g0, BG (chH h (h 1 3).toNat) g0 ∧ SG g0 = crR h ∧ ((0 < (crR h).2.2.1 ∧ r = some (mI (cntF (mvN (PRH h) (h 4) (crR h).2.2.2) 8 : Nat)) ∧ g = cpyH g0 16 4 8) ∨ (¬ 0 < (crR h).2.2.1 ∧ r = some (mI (-1)) ∧ g = g0))) := by
  intro Q hq X hX hR
  have hn := hI.n
  have hm := hI.q
  have e1 : ∀ i, chH h i 1 = h 1 := fun i => by rw [chH_ne (by decide)]; exact (PRi_RE (h := h) (i := 8)).1
  have e4 : ∀ i, chH h i 4 = h 4 := fun i => by rw [chH_ne (by decide)]; exact PRi_ne (by decide) (by decide) (by decide) (by decide) (by decide) (by decide) (by decide)
  have hE := chH_ENV hI hS (Nat.le_refl (h 1 3).toNat)
  have loop : ∀ i : Nat, i ≤ (h 1 3).toNat → VW X 13 [some (mA 0), some (mI i)] [] (chH h i) := by
    refine loop_up _ ?_ ?_
    · have e15 : chH h (h 1 3).toNat 15 = PRH h 15 := chH_ne (by decide)
      have e16 : chH h (h 1 3).toNat 16 = PRH h 16 := chH_ne (by decide)
      have rs : ext (chH h (h 1 3).toNat) 1 8 (chH h (h 1 3).toNat 15) (ABV, ABV, 0, chH h (h 1 3).toNat 16) = crR h := by rw [e15, e16]; rfl
      have fk : FOK (crR h).2.2.2 := by
        refine ext_fok (by rw [chH_ne (by decide), PRH_27]; omega) 8 _ _ (fun p hp => by rw [PRH_15 hp]; decide) (fun p hp => ?_)
        show -1 ≤ PRH h 16 p ∧ PRH h 16 p < 5
        rw [show PRH h 16 = h 16 from PRi_ne (by decide) (by decide) (by decide) (by decide) (by decide) (by decide) (by decide)]
        exact hF p hp
      refine v_iload_n hX eX7_change_13 rfl ?_
      refine v_aload_n hX eX7_change_14 rfl ?_
      refine v_getA hX eX7_change_15 fi_X7_10 ⟨by decide, rfl⟩ rfl ?_
      refine v_getI hX eX7_change_18 fi_X7_101 ⟨by decide, rfl⟩ ?_
      rw [e1]
      refine v_icmp_ge hX eX7_change_21 (tgt := 44) rfl ⟨by omega, by omega⟩ ⟨by omega, by omega⟩ (fun c21 => ?_) (fun c21 => False.elim ((by omega)))
      refine v_aload_n hX eX7_change_44 rfl ?_
      refine v_getA hX eX7_change_45 fi_X7_19 ⟨by decide, rfl⟩ rfl ?_
      refine v_frV hX eX7_change_48 lV_X7_148 ok_MX6_findBest ⟨by decide, rfl⟩ rfl ⟨rfl, Nat.le_of_ble_eq_true rfl⟩ (Nat.le_of_ble_eq_true rfl) (c_X6_findBest hE) rfl ?_
      rintro r g0 ⟨rfl, m1, m2, m3⟩
      rw [rs] at m3 ⊢
      have g16 : g0 16 = (crR h).2.2.2 := by rw [← m3]; rfl
      have g4 : g0 4 = h 4 := (BG_ne m1 (by decide) (by decide) (by decide) (by decide)).trans (e4 _)
      have g26 : g0 2 6 = PRH h 2 6 := by rw [m1.2 6 (by decide) (by decide) (by decide) (by decide), chH_ne (by decide)]
      have mv : mvF g0 = mvN (PRH h) (h 4) (crR h).2.2.2 := by funext p; unfold mvF mvN isP; rw [g16, g4, g26]
      show VW X 51 _ [mI (b01 (0 < (crR h).2.2.1))] g0
      refine v_ifB_ne hX eX7_change_51 (tgt := 56) rfl (fun c51 => ?_) (fun c51 => ?_)
      · refine v_aload_n hX eX7_change_56 rfl ?_
        refine v_getA hX eX7_change_57 fi_X7_19 ⟨by decide, rfl⟩ rfl ?_
        refine v_aload_n hX eX7_change_60 rfl ?_
        refine v_getA hX eX7_change_61 fi_X7_30 ⟨by decide, rfl⟩ rfl ?_
        refine v_fnV hX eX7_change_64 lV_X7_185 ok_MX6_movedFrom ⟨by decide, rfl⟩ rfl ⟨rfl, Nat.le_of_ble_eq_true rfl⟩ (Nat.le_of_ble_eq_true rfl) (c_X6_movedFrom (by rw [g26]; exact (PRH_ENV hI hS).1) (fun p hp => by rw [g4]; exact hL p hp) (fun p hp => by have := fk p hp; rw [g16]; omega)) rfl ?_
        try simp only [Int.toNat_natCast, Int.toNat_zero, Int.reduceToNat]
        rw [mv]
        refine v_istore_n hX eX7_change_67 rfl rfl ?_
        refine v_aload_n hX eX7_change_68 rfl ?_
        refine v_getA hX eX7_change_69 fi_X7_19 ⟨by decide, rfl⟩ rfl ?_
        refine v_aload_n hX eX7_change_72 rfl ?_
        refine v_getA hX eX7_change_73 fi_X7_30 ⟨by decide, rfl⟩ rfl ?_
        refine v_fnV0 hX eX7_change_76 lV_X7_152 ok_MX6_copyFound ⟨by decide, rfl⟩ rfl ⟨rfl, Nat.le_of_ble_eq_true rfl⟩ (Nat.le_of_ble_eq_true rfl) (c_X6_copyFound) rfl ?_
        try simp only [Int.toNat_natCast, Int.toNat_zero, Int.reduceToNat]
        refine v_iload_n hX eX7_change_79 rfl ?_
        exact v_ireturn hX hR eX7_change_80 rfl (hq _ _ ⟨g0, m1, m3, Or.inl ⟨c51, rfl, rfl⟩⟩)
      · refine v_iconst hX eX7_change_54 ?_
        exact v_ireturn hX hR eX7_change_55 rfl (hq _ _ ⟨g0, m1, m3, Or.inr ⟨c51, rfl, rfl⟩⟩)
    · intro i hi ih
      have li := hL i (by omega)
      refine v_iload_n hX eX7_change_13 rfl ?_
      refine v_aload_n hX eX7_change_14 rfl ?_
      refine v_getA hX eX7_change_15 fi_X7_10 ⟨by decide, rfl⟩ rfl ?_
      refine v_getI hX eX7_change_18 fi_X7_101 ⟨by decide, rfl⟩ ?_
      rw [e1]
      refine v_icmp_ge hX eX7_change_21 (tgt := 44) rfl ⟨by omega, by omega⟩ ⟨by omega, by omega⟩ (fun c21 => False.elim ((by omega))) (fun c21 => ?_)
      refine v_aload_n hX eX7_change_24 rfl ?_
      refine v_getA hX eX7_change_25 fi_X7_19 ⟨by decide, rfl⟩ rfl ?_
      refine v_iload_n hX eX7_change_28 rfl ?_
      refine v_aload_n hX eX7_change_29 rfl ?_
      refine v_getA hX eX7_change_30 fi_X7_30 ⟨by decide, rfl⟩ rfl ?_
      refine v_iload_n hX eX7_change_33 rfl ?_
      refine v_iald hX eX7_change_34 (by first | exact ⟨by decide, rfl⟩ | exact AR_rk (by omega)) ⟨by omega, by omega⟩ ?_
      try simp only [Int.toNat_natCast, Int.toNat_zero, Int.reduceToNat]
      rw [e4]
      refine v_fnV0 hX eX7_change_35 lV_X7_181 ok_MX6_chargeMove ⟨by decide, rfl⟩ rfl ⟨rfl, Nat.le_of_ble_eq_true rfl⟩ (Nat.le_of_ble_eq_true rfl) (c_X6_chargeMove (p := i) (by omega) ⟨by omega, by omega⟩) rfl ?_
      try simp only [Int.toNat_natCast, Int.toNat_zero, Int.reduceToNat]
      rw [chH_s]
      refine v_iinc hX eX7_change_38 rfl rfl rfl ?_
      refine v_goto hX eX7_change_41 (tgt := 13) rfl ?_
      exact ih
  have l0 := loop 0 (by omega)
  rw [show chH h 0 = PRH h from by funext a b; rw [chH, if_neg (by omega)]] at l0
  show VW X 0 [some (mA 0), none] [] h
  refine v_aload_n hX eX7_change_0 rfl ?_
  refine v_getA hX eX7_change_1 fi_X7_19 ⟨by decide, rfl⟩ rfl ?_
  refine v_aload_n hX eX7_change_4 rfl ?_
  refine v_getA hX eX7_change_5 fi_X7_10 ⟨by decide, rfl⟩ rfl ?_
  refine v_fnV0 hX eX7_change_8 lV_X7_144 ok_MX6_prepare ⟨by decide, rfl⟩ rfl ⟨rfl, Nat.le_of_ble_eq_true rfl⟩ (Nat.le_of_ble_eq_true rfl) (c_X6_prepare hI hP) rfl ?_
  try simp only [Int.toNat_natCast, Int.toNat_zero, Int.reduceToNat]
  refine v_iconst hX eX7_change_11 ?_
  refine v_istore_n hX eX7_change_12 rfl rfl ?_
  exact l0
/-! swap -/
theorem swp_PLI {h : Hp} (hL : PLI h) {a b : Nat} (ha : a < 8) (hb : b < 8) : PLI (swp h 4 a b) := by
  intro p hp
  unfold swp up
  split
  · exact hL a ha
  · split
    · exact hL b hb
    · exact hL p hp
theorem swp_RI {h : Hp} (hI : RI h) {a b : Nat} : RI (swp h 4 a b) := (hI.up (by decide)).up (by decide)
theorem swp_swp {h : Hp} {a b : Nat} : swp (swp h 4 a b) 4 a b = h := by
  funext x y
  simp only [swp, up]
  by_cases hx : x = 4
  · subst hx
    by_cases h1 : y = b
    · subst h1
      by_cases h2 : a = y <;> simp [h2]
    · by_cases h2 : y = a
      · subst h2
        simp [h1]
      · simp [h1, h2]
  · simp [hx]
set_option maxHeartbeats 2000000 in
set_option maxRecDepth 20000 in
theorem c_X7_rightAfterExchange {d : Nat} {h : Hp} {a b : Int} (hI : RI h) (hL : PLI h) (ha : 0 ≤ a ∧ a < 8) (hb : 0 ≤ b ∧ b < 8) : Fn (d + 5) MX7_rightAfterExchange [mA 0, mI a, mI b] h (some (mI (b01 (flt (swp h 4 a.toNat b.toNat) = 0)))) h := by
  intro Q hq X hX hR
  have fr := flt_rng (swp_RI hI (a := a.toNat) (b := b.toNat))
  show VW X 0 [some (mA 0), some (mI a), some (mI b), none] [] h
  refine v_aload_n hX eX7_rightAfterExchange_0 rfl ?_
  refine v_getA hX eX7_rightAfterExchange_1 fi_X7_30 ⟨by decide, rfl⟩ rfl ?_
  refine v_iload_n hX eX7_rightAfterExchange_4 rfl ?_
  refine v_iload_n hX eX7_rightAfterExchange_5 rfl ?_
  refine v_fnS0 hX eX7_rightAfterExchange_6 lS_X7_223 ok_MX7_exchangePlaces ⟨rfl, Nat.le_of_ble_eq_true rfl⟩ (Nat.le_of_ble_eq_true rfl) (c_X7_exch (k := 4) (n := 8) ⟨by decide, rfl⟩ ha hb) rfl ?_
  try simp only [Int.toNat_natCast, Int.toNat_zero, Int.reduceToNat]
  refine v_aload_n hX eX7_rightAfterExchange_9 rfl ?_
  refine v_getA hX eX7_rightAfterExchange_10 fi_X7_10 ⟨by decide, rfl⟩ rfl ?_
  refine v_aload_n hX eX7_rightAfterExchange_13 rfl ?_
  refine v_getA hX eX7_rightAfterExchange_14 fi_X7_30 ⟨by decide, rfl⟩ rfl ?_
  refine v_fnV hX eX7_rightAfterExchange_17 lV_X7_140 ok_MX4_faultOf ⟨by decide, rfl⟩ rfl ⟨rfl, Nat.le_of_ble_eq_true rfl⟩ (Nat.le_of_ble_eq_true rfl) (c_X4_faultOf (swp_RI hI) (swp_PLI hL (by omega) (by omega))) rfl ?_
  try simp only [Int.toNat_natCast, Int.toNat_zero, Int.reduceToNat]
  refine v_if_ne hX eX7_rightAfterExchange_20 (tgt := 27) rfl ⟨by omega, by omega⟩ (fun c20 => ?_) (fun c20 => ?_)
  · refine v_iconst hX eX7_rightAfterExchange_27 ?_
    refine v_istore_n hX eX7_rightAfterExchange_28 rfl rfl ?_
    refine v_aload_n hX eX7_rightAfterExchange_29 rfl ?_
    refine v_getA hX eX7_rightAfterExchange_30 fi_X7_30 ⟨by decide, rfl⟩ rfl ?_
    refine v_iload_n hX eX7_rightAfterExchange_33 rfl ?_
    refine v_iload_n hX eX7_rightAfterExchange_34 rfl ?_
    refine v_fnS0 hX eX7_rightAfterExchange_35 lS_X7_223 ok_MX7_exchangePlaces ⟨rfl, Nat.le_of_ble_eq_true rfl⟩ (Nat.le_of_ble_eq_true rfl) (c_X7_exch (k := 4) (n := 8) ⟨by decide, rfl⟩ ha hb) rfl ?_
    try simp only [Int.toNat_natCast, Int.toNat_zero, Int.reduceToNat]
    rw [swp_swp]
    refine v_iload_n hX eX7_rightAfterExchange_38 rfl ?_
    exact v_zreturn hX hR eX7_rightAfterExchange_39 rfl (by omega) (q_f c20 hq)
  · refine v_iconst hX eX7_rightAfterExchange_23 ?_
    refine v_goto hX eX7_rightAfterExchange_24 (tgt := 28) rfl ?_
    refine v_istore_n hX eX7_rightAfterExchange_28 rfl rfl ?_
    refine v_aload_n hX eX7_rightAfterExchange_29 rfl ?_
    refine v_getA hX eX7_rightAfterExchange_30 fi_X7_30 ⟨by decide, rfl⟩ rfl ?_
    refine v_iload_n hX eX7_rightAfterExchange_33 rfl ?_
    refine v_iload_n hX eX7_rightAfterExchange_34 rfl ?_
    refine v_fnS0 hX eX7_rightAfterExchange_35 lS_X7_223 ok_MX7_exchangePlaces ⟨rfl, Nat.le_of_ble_eq_true rfl⟩ (Nat.le_of_ble_eq_true rfl) (c_X7_exch (k := 4) (n := 8) ⟨by decide, rfl⟩ ha hb) rfl ?_
    try simp only [Int.toNat_natCast, Int.toNat_zero, Int.reduceToNat]
    rw [swp_swp]
    refine v_iload_n hX eX7_rightAfterExchange_38 rfl ?_
    exact v_zreturn hX hR eX7_rightAfterExchange_39 rfl (by omega) (q_t (by omega) hq)
def gnP (h : Hp) (p : Nat) (q : Int) : Prop := rkI h p q < rkP h p
set_option maxHeartbeats 2000000 in
set_option maxRecDepth 20000 in
theorem c_X7_gains {d : Nat} {h : Hp} {p : Nat} {q : Int} (hI : RI h) (hL : PLI h) (hp : p < (h 1 3).toNat) (hr : rng q) : Fn (d + 3) MX7_gains [mA 0, mI p, mI q] h (some (mI (b01 (gnP h p q)))) h := by
  intro Q hq X hX hR
  have hn := hI.n
  have r1 := rkI_rng hI (p := p) (by omega) q
  have r2 : 0 ≤ rkP h p ∧ rkP h p ≤ 6 := by
    unfold rkP
    split
    · have := rkI_rng hI (p := p) (by omega) (h 4 p); omega
    · decide
  show VW X 0 [some (mA 0), some (mI p), some (mI q), none] [] h
  refine v_aload_n hX eX7_gains_0 rfl ?_
  refine v_getA hX eX7_gains_1 fi_X7_10 ⟨by decide, rfl⟩ rfl ?_
  refine v_iload_n hX eX7_gains_4 rfl ?_
  refine v_fnV hX eX7_gains_5 lV_X7_55 ok_MX4_pupilOf ⟨by decide, rfl⟩ rfl ⟨rfl, Nat.le_of_ble_eq_true rfl⟩ (Nat.le_of_ble_eq_true rfl) (c_X4_pupilOf hI ⟨by omega, by omega⟩) rfl ?_
  try simp only [Int.toNat_natCast, Int.toNat_zero, Int.reduceToNat]
  refine v_astore_n hX eX7_gains_8 rfl rfl ?_
  refine v_aload_n hX eX7_gains_9 rfl ?_
  refine v_ifnull hX eX7_gains_10 ?_
  refine v_aload_n hX eX7_gains_13 rfl ?_
  refine v_iload_n hX eX7_gains_14 rfl ?_
  refine v_fnV hX eX7_gains_15 lV_X7_134 ok_MX3_rankIn (OB_pu (by omega)) rfl ⟨rfl, Nat.le_of_ble_eq_true rfl⟩ (Nat.le_of_ble_eq_true rfl) (c_X3_rankIn (p := p) (by omega) hr) rfl ?_
  try simp only [Int.toNat_natCast, Int.toNat_zero, Int.reduceToNat]
  refine v_aload_n hX eX7_gains_18 rfl ?_
  refine v_iload_n hX eX7_gains_19 rfl ?_
  refine v_fnV hX eX7_gains_20 lV_X7_195 ok_MX7_rankByPlan ⟨by decide, rfl⟩ rfl ⟨rfl, Nat.le_of_ble_eq_true rfl⟩ (Nat.le_of_ble_eq_true rfl) (c_X7_rankByPlan hI hL (by omega)) rfl ?_
  try simp only [Int.toNat_natCast, Int.toNat_zero, Int.reduceToNat]
  refine v_icmp_ge hX eX7_gains_23 (tgt := 30) rfl ⟨by omega, by omega⟩ ⟨by omega, by omega⟩ (fun c23 => ?_) (fun c23 => ?_)
  · refine v_iconst hX eX7_gains_30 ?_
    exact v_zreturn hX hR eX7_gains_31 rfl (by omega) (q_f (fun z => by unfold gnP at z; omega) hq)
  · refine v_iconst hX eX7_gains_26 ?_
    refine v_goto hX eX7_gains_27 (tgt := 31) rfl ?_
    exact v_zreturn hX hR eX7_gains_31 rfl (by omega) (q_t (by unfold gnP; omega) hq)
def bgP (h : Hp) (a b : Nat) : Prop := plF h a = true ∧ plF h b = true ∧ gnP h a (h 4 b) ∧ gnP h b (h 4 a)
set_option maxHeartbeats 2000000 in
set_option maxRecDepth 20000 in
theorem c_X7_bothGain {d : Nat} {h : Hp} {a b : Nat} (hI : RI h) (hL : PLI h) (ha : a < (h 1 3).toNat) (hb : b < (h 1 3).toNat) : Fn (d + 4) MX7_bothGain [mA 0, mI a, mI b] h (some (mI (b01 (bgP h a b)))) h := by
  intro Q hq X hX hR
  have hn := hI.n
  have la := hL a (by omega)
  have lb := hL b (by omega)
  show VW X 0 [some (mA 0), some (mI a), some (mI b)] [] h
  refine v_aload_n hX eX7_bothGain_0 rfl ?_
  refine v_iload_n hX eX7_bothGain_1 rfl ?_
  refine v_fnV hX eX7_bothGain_2 lV_X7_211 ok_MX7_isPlaced ⟨by decide, rfl⟩ rfl ⟨rfl, Nat.le_of_ble_eq_true rfl⟩ (Nat.le_of_ble_eq_true rfl) (c_X7_isPlaced hI hL ⟨by omega, by omega⟩) rfl ?_
  try simp only [Int.toNat_natCast, Int.toNat_zero, Int.reduceToNat]
  refine v_ifB_eq hX eX7_bothGain_5 (tgt := 48) rfl (fun c5 => ?_) (fun c5 => ?_)
  · refine v_iconst hX eX7_bothGain_48 ?_
    exact v_zreturn hX hR eX7_bothGain_49 rfl (by omega) (q_f (fun z => c5 z.1) hq)
  · refine v_aload_n hX eX7_bothGain_8 rfl ?_
    refine v_iload_n hX eX7_bothGain_9 rfl ?_
    refine v_fnV hX eX7_bothGain_10 lV_X7_211 ok_MX7_isPlaced ⟨by decide, rfl⟩ rfl ⟨rfl, Nat.le_of_ble_eq_true rfl⟩ (Nat.le_of_ble_eq_true rfl) (c_X7_isPlaced hI hL ⟨by omega, by omega⟩) rfl ?_
    try simp only [Int.toNat_natCast, Int.toNat_zero, Int.reduceToNat]
    refine v_ifB_eq hX eX7_bothGain_13 (tgt := 48) rfl (fun c13 => ?_) (fun c13 => ?_)
    · refine v_iconst hX eX7_bothGain_48 ?_
      exact v_zreturn hX hR eX7_bothGain_49 rfl (by omega) (q_f (fun z => c13 z.2.1) hq)
    · refine v_aload_n hX eX7_bothGain_16 rfl ?_
      refine v_iload_n hX eX7_bothGain_17 rfl ?_
      refine v_aload_n hX eX7_bothGain_18 rfl ?_
      refine v_getA hX eX7_bothGain_19 fi_X7_30 ⟨by decide, rfl⟩ rfl ?_
      refine v_iload_n hX eX7_bothGain_22 rfl ?_
      refine v_iald hX eX7_bothGain_23 (by first | exact ⟨by decide, rfl⟩ | exact AR_rk (by omega)) ⟨by omega, by omega⟩ ?_
      try simp only [Int.toNat_natCast, Int.toNat_zero, Int.reduceToNat]
      refine v_fnV hX eX7_bothGain_24 lV_X7_220 ok_MX7_gains ⟨by decide, rfl⟩ rfl ⟨rfl, Nat.le_of_ble_eq_true rfl⟩ (Nat.le_of_ble_eq_true rfl) (c_X7_gains hI hL ha ⟨by omega, by omega⟩) rfl ?_
      try simp only [Int.toNat_natCast, Int.toNat_zero, Int.reduceToNat]
      refine v_ifB_eq hX eX7_bothGain_27 (tgt := 48) rfl (fun c27 => ?_) (fun c27 => ?_)
      · refine v_iconst hX eX7_bothGain_48 ?_
        exact v_zreturn hX hR eX7_bothGain_49 rfl (by omega) (q_f (fun z => c27 z.2.2.1) hq)
      · refine v_aload_n hX eX7_bothGain_30 rfl ?_
        refine v_iload_n hX eX7_bothGain_31 rfl ?_
        refine v_aload_n hX eX7_bothGain_32 rfl ?_
        refine v_getA hX eX7_bothGain_33 fi_X7_30 ⟨by decide, rfl⟩ rfl ?_
        refine v_iload_n hX eX7_bothGain_36 rfl ?_
        refine v_iald hX eX7_bothGain_37 (by first | exact ⟨by decide, rfl⟩ | exact AR_rk (by omega)) ⟨by omega, by omega⟩ ?_
        try simp only [Int.toNat_natCast, Int.toNat_zero, Int.reduceToNat]
        refine v_fnV hX eX7_bothGain_38 lV_X7_220 ok_MX7_gains ⟨by decide, rfl⟩ rfl ⟨rfl, Nat.le_of_ble_eq_true rfl⟩ (Nat.le_of_ble_eq_true rfl) (c_X7_gains hI hL hb ⟨by omega, by omega⟩) rfl ?_
        try simp only [Int.toNat_natCast, Int.toNat_zero, Int.reduceToNat]
        refine v_ifB_eq hX eX7_bothGain_41 (tgt := 48) rfl (fun c41 => ?_) (fun c41 => ?_)
        · refine v_iconst hX eX7_bothGain_48 ?_
          exact v_zreturn hX hR eX7_bothGain_49 rfl (by omega) (q_f (fun z => c41 z.2.2.2) hq)
        · refine v_iconst hX eX7_bothGain_44 ?_
          refine v_goto hX eX7_bothGain_45 (tgt := 49) rfl ?_
          exact v_zreturn hX hR eX7_bothGain_49 rfl (by omega) (q_t ⟨c5, c13, c27, c41⟩ hq)
def swOk (h : Hp) (a b : Nat) : Prop := bgP h a b ∧ flt (swp h 4 a b) = 0
def swR (h : Hp) (r : Option MV) (g : Hp) : Prop := (∃ a b, a < b ∧ b < (h 1 3).toNat ∧ swOk h a b ∧ (∀ a' b', a' < b' → b' < (h 1 3).toNat → a' < a ∨ (a' = a ∧ b' < b) → ¬ swOk h a' b') ∧ r = some (mI 1) ∧ g = up (up (up h 5 0 a) 5 1 b) 0 7 2) ∨ ((∀ a' b', a' < b' → b' < (h 1 3).toNat → ¬ swOk h a' b') ∧ r = some (mI 0) ∧ g = h)
set_option maxHeartbeats 2000000 in
set_option maxRecDepth 20000 in
theorem c_X7_swap {d : Nat} {h : Hp} (hI : RI h) (hL : PLI h) : Fr (d + 6) MX7_swap [mA 0] h (swR h) := by
  intro Q hq X hX hR
  have hn := hI.n
  have loop : ∀ (k i : Nat), i + k = (h 1 3).toNat → (∀ a' b', a' < b' → b' < (h 1 3).toNat → a' < i → ¬ swOk h a' b') → ∀ l2, VW X 2 [some (mA 0), some (mI i), l2] [] h := by
    intro k
    induction k with
    | zero =>
      intro i hi hno l2
      refine v_iload_n hX eX7_swap_2 rfl ?_
      refine v_aload_n hX eX7_swap_3 rfl ?_
      refine v_getA hX eX7_swap_4 fi_X7_10 ⟨by decide, rfl⟩ rfl ?_
      refine v_getI hX eX7_swap_7 fi_X7_101 ⟨by decide, rfl⟩ ?_
      refine v_icmp_ge hX eX7_swap_10 (tgt := 79) rfl ⟨by omega, by omega⟩ ⟨by omega, by omega⟩ (fun c10 => ?_) (fun c10 => False.elim ((by omega)))
      refine v_iconst hX eX7_swap_79 ?_
      exact v_ireturn hX hR eX7_swap_80 rfl (hq _ _ (Or.inr ⟨fun a' b' h1 h2 => hno a' b' h1 h2 (by omega), rfl, rfl⟩))
    | succ k ih =>
      intro i hi hno l2
      have inner : ∀ (m j : Nat), j + m = (h 1 3).toNat → i < j → (∀ b', i < b' → b' < j → ¬ swOk h i b') → VW X 17 [some (mA 0), some (mI i), some (mI j)] [] h := by
        intro m
        induction m with
        | zero =>
          intro j hj hij hn2
          refine v_iload_n hX eX7_swap_17 rfl ?_
          refine v_aload_n hX eX7_swap_18 rfl ?_
          refine v_getA hX eX7_swap_19 fi_X7_10 ⟨by decide, rfl⟩ rfl ?_
          refine v_getI hX eX7_swap_22 fi_X7_101 ⟨by decide, rfl⟩ ?_
          refine v_icmp_ge hX eX7_swap_25 (tgt := 73) rfl ⟨by omega, by omega⟩ ⟨by omega, by omega⟩ (fun c25 => ?_) (fun c25 => False.elim ((by omega)))
          refine v_iinc hX eX7_swap_73 rfl rfl rfl ?_
          exact v_goto hX eX7_swap_76 (tgt := 2) rfl (ih (i + 1) (by omega) (fun a' b' h1 h2 h3 => if e : a' = i then (by subst e; exact hn2 b' h1 (by omega)) else hno a' b' h1 h2 (by omega)) _)
        | succ m ihm =>
          intro j hj hij hn2
          have next : ¬ swOk h i j → VW X 67 [some (mA 0), some (mI i), some (mI j)] [] h := by
            intro hno2
            refine v_iinc hX eX7_swap_67 rfl rfl rfl ?_
            exact v_goto hX eX7_swap_70 (tgt := 17) rfl (ihm (j + 1) (by omega) (by omega) (fun b' h1 h2 => if e : b' = j then (by subst e; exact hno2) else hn2 b' h1 (by omega)))
          refine v_iload_n hX eX7_swap_17 rfl ?_
          refine v_aload_n hX eX7_swap_18 rfl ?_
          refine v_getA hX eX7_swap_19 fi_X7_10 ⟨by decide, rfl⟩ rfl ?_
          refine v_getI hX eX7_swap_22 fi_X7_101 ⟨by decide, rfl⟩ ?_
          refine v_icmp_ge hX eX7_swap_25 (tgt := 73) rfl ⟨by omega, by omega⟩ ⟨by omega, by omega⟩ (fun c25 => False.elim ((by omega))) (fun c25 => ?_)
          refine v_aload_n hX eX7_swap_28 rfl ?_
          refine v_iload_n hX eX7_swap_29 rfl ?_
          refine v_iload_n hX eX7_swap_30 rfl ?_
          refine v_fnV hX eX7_swap_31 lV_X7_174 ok_MX7_bothGain ⟨by decide, rfl⟩ rfl ⟨rfl, Nat.le_of_ble_eq_true rfl⟩ (Nat.le_of_ble_eq_true rfl) (c_X7_bothGain hI hL (by omega) (by omega)) rfl ?_
          try simp only [Int.toNat_natCast, Int.toNat_zero, Int.reduceToNat]
          refine v_ifB_eq hX eX7_swap_34 (tgt := 67) rfl (fun c34 => ?_) (fun c34 => ?_)
          · exact next (fun z => c34 z.1)
          · refine v_aload_n hX eX7_swap_37 rfl ?_
            refine v_iload_n hX eX7_swap_38 rfl ?_
            refine v_iload_n hX eX7_swap_39 rfl ?_
            refine v_fnV hX eX7_swap_40 lV_X7_178 ok_MX7_rightAfterExchange ⟨by decide, rfl⟩ rfl ⟨rfl, Nat.le_of_ble_eq_true rfl⟩ (Nat.le_of_ble_eq_true rfl) (c_X7_rightAfterExchange hI hL ⟨by omega, by omega⟩ ⟨by omega, by omega⟩) rfl ?_
            try simp only [Int.toNat_natCast, Int.toNat_zero, Int.reduceToNat]
            refine v_ifB_eq hX eX7_swap_43 (tgt := 67) rfl (fun c43 => ?_) (fun c43 => ?_)
            · exact next (fun z => c43 z.2)
            · refine v_aload_n hX eX7_swap_46 rfl ?_
              refine v_getA hX eX7_swap_47 fi_X7_34 ⟨by decide, rfl⟩ rfl ?_
              refine v_iconst hX eX7_swap_50 ?_
              refine v_iload_n hX eX7_swap_51 rfl ?_
              refine v_iast hX eX7_swap_52 (by first | exact ⟨by decide, rfl⟩ | exact AR_rk (by omega)) ⟨by omega, by omega⟩ ?_
              try simp only [Int.toNat_natCast, Int.toNat_zero, Int.reduceToNat]
              refine v_aload_n hX eX7_swap_53 rfl ?_
              refine v_getA hX eX7_swap_54 fi_X7_34 ⟨by decide, rfl⟩ rfl ?_
              refine v_iconst hX eX7_swap_57 ?_
              refine v_iload_n hX eX7_swap_58 rfl ?_
              refine v_iast hX eX7_swap_59 (by first | exact ⟨by decide, rfl⟩ | exact AR_rk (by omega)) ⟨by omega, by omega⟩ ?_
              try simp only [Int.toNat_natCast, Int.toNat_zero, Int.reduceToNat]
              refine v_aload_n hX eX7_swap_60 rfl ?_
              refine v_iconst hX eX7_swap_61 ?_
              refine v_putI hX eX7_swap_62 fi_X7_119 ⟨by decide, rfl⟩ ?_
              refine v_iconst hX eX7_swap_65 ?_
              exact v_ireturn hX hR eX7_swap_66 rfl (hq _ _ (Or.inl ⟨i, j, hij, by omega, ⟨c34, c43⟩, fun a' b' h1 h2 h3 => h3.elim (fun y => hno a' b' h1 h2 y) (fun y => by obtain ⟨rfl, y2⟩ := y; exact hn2 b' h1 y2), rfl, rfl⟩))
      refine v_iload_n hX eX7_swap_2 rfl ?_
      refine v_aload_n hX eX7_swap_3 rfl ?_
      refine v_getA hX eX7_swap_4 fi_X7_10 ⟨by decide, rfl⟩ rfl ?_
      refine v_getI hX eX7_swap_7 fi_X7_101 ⟨by decide, rfl⟩ ?_
      refine v_icmp_ge hX eX7_swap_10 (tgt := 79) rfl ⟨by omega, by omega⟩ ⟨by omega, by omega⟩ (fun c10 => False.elim ((by omega))) (fun c10 => ?_)
      refine v_iload_n hX eX7_swap_13 rfl ?_
      refine v_iconst hX eX7_swap_14 ?_
      refine v_iadd hX eX7_swap_15 ?_
      refine v_istore_n hX eX7_swap_16 rfl rfl ?_
      exact inner ((h 1 3).toNat - (i + 1)) (i + 1) (by omega) (by omega) (fun b' h1 h2 => by omega)
  show VW X 0 [some (mA 0), none, none] [] h
  refine v_iconst hX eX7_swap_0 ?_
  refine v_istore_n hX eX7_swap_1 rfl rfl ?_
  exact loop (h 1 3).toNat 0 (by omega) (fun a' b' h1 h2 h3 => absurd h3 (Nat.not_lt_zero _)) _
