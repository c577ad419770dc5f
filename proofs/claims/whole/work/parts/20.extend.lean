/-! Search: judge and extend -/
def EE (e : Hp) (lw : Int) (h : Hp) : Prop := h 2 6 = e 2 6 ∧ h 2 7 = e 2 7 ∧ h 2 10 = lw ∧ h 13 = e 13 ∧ h 17 = e 17 ∧ h 18 = e 18 ∧ h 19 = e 19 ∧ h 20 = e 20
def SM (h g : Hp) : Prop := (∀ a, a ≠ 2 → a ≠ 15 → a ≠ 16 → g a = h a) ∧ ∀ j, j ≠ 8 → j ≠ 9 → j ≠ 11 → g 2 j = h 2 j
theorem SM.rf {h : Hp} : SM h h := ⟨fun _ _ _ _ => rfl, fun _ _ _ _ => rfl⟩
theorem SM.tr {h g k : Hp} (a : SM h g) (b : SM g k) : SM h k := ⟨fun x h1 h2 h3 => (b.1 x h1 h2 h3).trans (a.1 x h1 h2 h3), fun x h1 h2 h3 => (b.2 x h1 h2 h3).trans (a.2 x h1 h2 h3)⟩
theorem EE.sm {e h g : Hp} {lw : Int} (a : EE e lw h) (b : SM h g) : EE e lw g := by
  obtain ⟨a1, a2, a3, a4, a5, a6, a7, a8⟩ := a
  obtain ⟨b1, b2⟩ := b
  refine ⟨?_, ?_, ?_, ?_, ?_, ?_, ?_, ?_⟩
  · rw [b2 6 (by decide) (by decide) (by decide), a1]
  · rw [b2 7 (by decide) (by decide) (by decide), a2]
  · rw [b2 10 (by decide) (by decide) (by decide), a3]
  · rw [b1 13 (by decide) (by decide) (by decide), a4]
  · rw [b1 17 (by decide) (by decide) (by decide), a5]
  · rw [b1 18 (by decide) (by decide) (by decide), a6]
  · rw [b1 19 (by decide) (by decide) (by decide), a7]
  · rw [b1 20 (by decide) (by decide) (by decide), a8]
set_option maxHeartbeats 2000000 in
set_option maxRecDepth 20000 in
theorem c_X6_isPresent {d : Nat} {h : Hp} {p : Int} (hp : 0 ≤ p ∧ p < 8) (hb : 0 ≤ h 2 6 ∧ h 2 6 ≤ 255) : Fn d MX6_isPresent [mA 2, mI p] h (some (mI (b01 (isP h p.toNat = true)))) h := by
  intro Q hq X hX hR
  show VW X 0 [some (mA 2), some (mI p)] [] h
  refine v_aload_n hX eX6_isPresent_0 rfl ?_
  refine v_getI hX eX6_isPresent_1 fi_X6_49 ⟨by decide, rfl⟩ ?_
  refine v_iload_n hX eX6_isPresent_4 rfl ?_
  refine v_ishr hX eX6_isPresent_5 ?_
  refine v_iconst hX eX6_isPresent_6 ?_
  refine v_iand hX eX6_isPresent_7 ?_
  rw [bitZ hb (by omega)]
  refine v_ifB_eq hX eX6_isPresent_8 (tgt := 15) rfl (fun c8 => ?_) (fun c8 => ?_)
  · refine v_iconst hX eX6_isPresent_15 ?_
    exact v_zreturn hX hR eX6_isPresent_16 rfl (by omega) (q_f c8 hq)
  · refine v_iconst hX eX6_isPresent_11 ?_
    refine v_goto hX eX6_isPresent_12 (tgt := 16) rfl ?_
    exact v_zreturn hX hR eX6_isPresent_16 rfl (by omega) (q_t c8 hq)
noncomputable def jdH (h : Hp) (lw cost lot : Int) : Hp := if lw = 0 then up h 2 11 (h 2 11 + 1) else cpyH (up (up (up h 2 11 (h 2 11 + 1)) 2 8 cost) 2 9 lot) 15 16 8
set_option maxHeartbeats 2000000 in
set_option maxRecDepth 20000 in
theorem c_X6_judge {d : Nat} {e h : Hp} {lw : Int} (hE : ENV e) (hlw : lw = 0 ∨ lw = 1) (ee : EE e lw h) (hs : SOK (SG h)) (hg : ∀ q : Nat, q < 5 → h 14 q = (gU e (h 15) 8 q : Nat)) :
    Fr (d + 1) MX6_judge [mA 2, mL (cU e (h 15) 8), mL (lU e (h 15) 8)] h (fun r g => r = none ∧ SM h g ∧ g 15 = h 15 ∧ SG g = jst e lw (h 15) (SG h)) := by
  intro Q hq X hX hR
  obtain ⟨a1, a2, a3, a4, a5, a6, a7, a8⟩ := ee
  have hQ := hE.2.1
  have hc := cU_rng hE (h 15) (p := 8) (by omega)
  have hl := lU_rng hE (h 15) 8 (by omega)
  have hb : 0 ≤ h 2 8 ∧ h 2 8 ≤ 4611686018427387904 := hs.1
  have hb2 : 0 ≤ h 2 9 ∧ h 2 9 ≤ 4611686018427387904 := hs.2
  have no : ¬ (okF e (h 15) ∧ (cU e (h 15) 8 < h 2 8 ∨ cU e (h 15) 8 = h 2 8 ∧ lU e (h 15) 8 < h 2 9)) → Q none h := fun z => hq _ _ ⟨rfl, SM.rf, rfl, by
    unfold jst
    rw [if_neg (show ¬ (pb (okF e (h 15) ∧ (cU e (h 15) 8 < (SG h).1 ∨ cU e (h 15) 8 = (SG h).1 ∧ lU e (h 15) 8 < (SG h).2.1)) = true) from fun y => z (pb_iff.mp y))]⟩
  have yes : (okF e (h 15) ∧ (cU e (h 15) 8 < h 2 8 ∨ cU e (h 15) 8 = h 2 8 ∧ lU e (h 15) 8 < h 2 9)) → Q none (jdH h lw (cU e (h 15) 8) (lU e (h 15) 8)) := fun z => hq _ _ (by
    unfold jdH
    by_cases e0 : lw = 0
    · rw [if_pos e0]
      refine ⟨rfl, ⟨fun a h1 h2 h3 => up_obf h1, fun j h1 h2 h3 => up_ne (fun y => h3 y.2)⟩, up_obf (by decide), ?_⟩
      unfold jst
      rw [if_pos (show pb (okF e (h 15) ∧ (cU e (h 15) 8 < (SG h).1 ∨ cU e (h 15) 8 = (SG h).1 ∧ lU e (h 15) 8 < (SG h).2.1)) = true from pb_iff.mpr z), if_pos e0]
      simp [SG, up]
      exact up_obf (by decide)
    · rw [if_neg e0]
      refine ⟨rfl, ⟨fun a h1 h2 h3 => ?_, fun j h1 h2 h3 => ?_⟩, ?_, ?_⟩
      · funext b
        simp [cpyH, up, h1, h3]
      · simp [cpyH, up, h1, h2, h3]
      · funext b
        simp [cpyH, up]
      · unfold jst
        rw [if_pos (show pb (okF e (h 15) ∧ (cU e (h 15) 8 < (SG h).1 ∨ cU e (h 15) 8 = (SG h).1 ∧ lU e (h 15) 8 < (SG h).2.1)) = true from pb_iff.mpr z), if_neg e0]
        simp only [SG, cpyH, up]
        simp
        funext b
        simp [cpy, cpyH, up])
  have after : okF e (h 15) → ∀ l5, VW X 38 [some (mA 2), some (mL (cU e (h 15) 8)), none, some (mL (lU e (h 15) 8)), none, l5] [] h := by
    intro ho l5
    have tail : (cU e (h 15) 8 < h 2 8 ∨ cU e (h 15) 8 = h 2 8 ∧ lU e (h 15) 8 < h 2 9) → VW X 66 [some (mA 2), some (mL (cU e (h 15) 8)), none, some (mL (lU e (h 15) 8)), none, l5] [] h := by
      intro hlt
      have y := yes ⟨ho, hlt⟩
      rcases hlw with rfl | rfl
      · rw [show jdH h 0 (cU e (h 15) 8) (lU e (h 15) 8) = up h 2 11 (h 2 11 + 1) from if_pos rfl] at y
        refine v_aload_n hX eX6_judge_66 rfl ?_
        refine v_dup hX eX6_judge_67 rfl ?_
        refine v_getI hX eX6_judge_68 fi_X6_78 ⟨by decide, rfl⟩ ?_
        refine v_iconst hX eX6_judge_71 ?_
        refine v_iadd hX eX6_judge_72 ?_
        refine v_putI hX eX6_judge_73 fi_X6_78 ⟨by decide, rfl⟩ ?_
        refine v_aload_n hX eX6_judge_76 rfl ?_
        refine v_getZ hX eX6_judge_77 fi_X6_105 ⟨by decide, rfl⟩ ?_
        rw [up_ne (by decide), a3]
        refine v_if_eq hX eX6_judge_80 (tgt := 111) rfl ⟨by omega, by omega⟩ (fun c80 => ?_) (fun c80 => False.elim ((c80 rfl)))
        exact v_return hX hR eX6_judge_111 rfl (y)
      · rw [show jdH h 1 (cU e (h 15) 8) (lU e (h 15) 8) = cpyH (up (up (up h 2 11 (h 2 11 + 1)) 2 8 (cU e (h 15) 8)) 2 9 (lU e (h 15) 8)) 15 16 8 from if_neg (by decide)] at y
        refine v_aload_n hX eX6_judge_66 rfl ?_
        refine v_dup hX eX6_judge_67 rfl ?_
        refine v_getI hX eX6_judge_68 fi_X6_78 ⟨by decide, rfl⟩ ?_
        refine v_iconst hX eX6_judge_71 ?_
        refine v_iadd hX eX6_judge_72 ?_
        refine v_putI hX eX6_judge_73 fi_X6_78 ⟨by decide, rfl⟩ ?_
        refine v_aload_n hX eX6_judge_76 rfl ?_
        refine v_getZ hX eX6_judge_77 fi_X6_105 ⟨by decide, rfl⟩ ?_
        rw [up_ne (by decide), a3]
        refine v_if_eq hX eX6_judge_80 (tgt := 111) rfl ⟨by omega, by omega⟩ (fun c80 => False.elim ((absurd c80 (by decide)))) (fun c80 => ?_)
        refine v_aload_n hX eX6_judge_83 rfl ?_
        refine v_lload_n hX eX6_judge_84 rfl ?_
        refine v_putL hX eX6_judge_85 fi_X6_98 ⟨by decide, rfl⟩ ?_
        refine v_aload_n hX eX6_judge_88 rfl ?_
        refine v_lload_n hX eX6_judge_89 rfl ?_
        refine v_putL hX eX6_judge_90 fi_X6_102 ⟨by decide, rfl⟩ ?_
        refine v_aload_n hX eX6_judge_93 rfl ?_
        refine v_getA hX eX6_judge_94 fi_X6_32 ⟨by decide, rfl⟩ rfl ?_
        refine v_iconst hX eX6_judge_97 ?_
        refine v_aload_n hX eX6_judge_98 rfl ?_
        refine v_getA hX eX6_judge_99 fi_X6_35 ⟨by decide, rfl⟩ rfl ?_
        refine v_iconst hX eX6_judge_102 ?_
        refine v_aload_n hX eX6_judge_103 rfl ?_
        refine v_getA hX eX6_judge_104 fi_X6_35 ⟨by decide, rfl⟩ rfl ?_
        refine v_alen hX eX6_judge_107 (by first | exact ⟨by decide, rfl⟩ | exact AR_rk (by omega)) ?_
        refine v_acopy (n := 8) hX eX6_judge_108 lA_X6_130 ⟨by decide, rfl⟩ ⟨by decide, rfl⟩ (by decide) (Nat.le_of_ble_eq_true rfl) ?_
        try simp only [Int.toNat_natCast, Int.toNat_zero, Int.reduceToNat]
        exact v_return hX hR eX6_judge_111 rfl (y)
    refine v_lload_n hX eX6_judge_38 rfl ?_
    refine v_aload_n hX eX6_judge_39 rfl ?_
    refine v_getL hX eX6_judge_40 fi_X6_98 ⟨by decide, rfl⟩ ?_
    refine v_lcmp hX eX6_judge_43 ⟨by omega, by omega⟩ ⟨by omega, by omega⟩ ?_
    refine v_if_gt hX eX6_judge_44 (tgt := 65) rfl (lcm_rng _ _) (fun c44 => ?_) (fun c44 => ?_)
    · have c := lcm_gt.mp c44
      refine v_return hX hR eX6_judge_65 rfl (no (fun z => ?_))
      omega
    · refine v_lload_n hX eX6_judge_47 rfl ?_
      refine v_aload_n hX eX6_judge_48 rfl ?_
      refine v_getL hX eX6_judge_49 fi_X6_98 ⟨by decide, rfl⟩ ?_
      refine v_lcmp hX eX6_judge_52 ⟨by omega, by omega⟩ ⟨by omega, by omega⟩ ?_
      refine v_if_ne hX eX6_judge_53 (tgt := 66) rfl (lcm_rng _ _) (fun c53 => ?_) (fun c53 => ?_)
      · have c1 : ¬ (h 2 8 < cU e (h 15) 8) := fun z => c44 (lcm_gt.mpr z)
        have c2 : ¬ (cU e (h 15) 8 = h 2 8) := fun z => c53 (lcm_eq.mpr z)
        exact tail (by omega)
      · refine v_lload_n hX eX6_judge_56 rfl ?_
        refine v_aload_n hX eX6_judge_57 rfl ?_
        refine v_getL hX eX6_judge_58 fi_X6_102 ⟨by decide, rfl⟩ ?_
        refine v_lcmp hX eX6_judge_61 ⟨by omega, by omega⟩ ⟨by omega, by omega⟩ ?_
        refine v_if_lt hX eX6_judge_62 (tgt := 66) rfl (lcm_rng _ _) (fun c62 => ?_) (fun c62 => ?_)
        · exact tail (Or.inr ⟨lcm_eq.mp c53, lcm_lt.mp c62⟩)
        · exact v_return hX hR eX6_judge_65 rfl (no (fun z => by have c1 := lcm_eq.mp c53; have c2 : ¬ (lU e (h 15) 8 < h 2 9) := fun y => c62 (lcm_lt.mpr y); omega))
  have loop : ∀ (k i : Nat), i + k = (e 2 7).toNat → (∀ q : Nat, q < i → (e 17 (gU e (h 15) 8 q)).toNat.testBit q = true) → VW X 3 [some (mA 2), some (mL (cU e (h 15) 8)), none, some (mL (lU e (h 15) 8)), none, some (mI i)] [] h := by
    intro k
    induction k with
    | zero =>
      intro i hi hp
      refine v_iload hX eX6_judge_3 rfl ?_
      refine v_aload_n hX eX6_judge_5 rfl ?_
      refine v_getI hX eX6_judge_6 fi_X6_55 ⟨by decide, rfl⟩ ?_
      rw [a2]
      refine v_icmp_ge hX eX6_judge_9 (tgt := 38) rfl ⟨by omega, by omega⟩ ⟨by omega, by omega⟩ (fun c9 => ?_) (fun c9 => False.elim ((by omega)))
      exact after (fun q hq2 => hp q (by omega)) _
    | succ k ih =>
      intro i hi hp
      have hf := hE.2.2.2.2.1 (gU e (h 15) 8 i) (gU_lt (Nat.le_refl 8))
      refine v_iload hX eX6_judge_3 rfl ?_
      refine v_aload_n hX eX6_judge_5 rfl ?_
      refine v_getI hX eX6_judge_6 fi_X6_55 ⟨by decide, rfl⟩ ?_
      rw [a2]
      refine v_icmp_ge hX eX6_judge_9 (tgt := 38) rfl ⟨by omega, by omega⟩ ⟨by omega, by omega⟩ (fun c9 => False.elim ((by omega))) (fun c9 => ?_)
      refine v_aload_n hX eX6_judge_12 rfl ?_
      refine v_getA hX eX6_judge_13 fi_X6_12 ⟨by decide, rfl⟩ rfl ?_
      refine v_iload hX eX6_judge_16 rfl ?_
      refine v_aload_n hX eX6_judge_18 rfl ?_
      refine v_getA hX eX6_judge_19 fi_X6_29 ⟨by decide, rfl⟩ rfl ?_
      refine v_iload hX eX6_judge_22 rfl ?_
      refine v_iald hX eX6_judge_24 (by first | exact ⟨by decide, rfl⟩ | exact AR_rk (by omega)) ⟨by omega, by omega⟩ ?_
      try simp only [Int.toNat_natCast, Int.toNat_zero, Int.reduceToNat]
      rw [hg i (by omega)]
      refine v_fnV hX eX6_judge_25 lV_X6_127 ok_MX0_fits ⟨by decide, rfl⟩ rfl ⟨rfl, Nat.le_of_ble_eq_true rfl⟩ (Nat.le_of_ble_eq_true rfl) (c_X0_fits (gU_lt (Nat.le_refl 8)) ⟨by omega, by omega⟩ (by rw [a5]; exact hf.1)) rfl ?_
      try simp only [Int.toNat_natCast, Int.toNat_zero, Int.reduceToNat]
      rw [a5]
      refine v_ifB_ne hX eX6_judge_28 (tgt := 32) rfl (fun c28 => ?_) (fun c28 => ?_)
      · refine v_iinc hX eX6_judge_32 rfl rfl rfl ?_
        exact v_goto hX eX6_judge_35 (tgt := 3) rfl (ih (i + 1) (by omega) (fun q hq2 => if e2 : q = i then e2 ▸ c28 else hp q (by omega)))
      · exact v_return hX hR eX6_judge_31 rfl (no (fun z => c28 (z.1 i (by omega))))
  show VW X 0 [some (mA 2), some (mL (cU e (h 15) 8)), none, some (mL (lU e (h 15) 8)), none, none] [] h
  refine v_iconst hX eX6_judge_0 ?_
  refine v_istore hX eX6_judge_1 rfl rfl ?_
  exact loop (e 2 7).toNat 0 (by omega) (fun q hq2 => absurd hq2 (Nat.not_lt_zero q))
theorem gU_s {e : Hp} {t : Nat → Int} {p : Nat} {q : Int} : gU e t (p + 1) q = if isP e p = true ∧ t p = q then gU e t p q ||| 2 ^ p else gU e t p q := by
  unfold gU
  rw [bs]
  by_cases h : isP e p = true ∧ t p = q
  · rw [if_pos h, if_pos (by rw [h.1, h.2]; simp)]
  · rw [if_neg h, if_neg (by simpa using h), Nat.or_zero]
set_option maxHeartbeats 2000000 in
set_option maxRecDepth 20000 in
theorem c_X6_extend {e : Hp} {lw : Int} (hE : ENV e) (hlw : lw = 0 ∨ lw = 1) : ∀ (k : Nat), k ≤ 8 → ∀ (d : Nat) (h : Hp), EE e lw h → SOK (SG h) → (∀ q : Nat, q < 5 → h 14 q = (gU e (h 15) (8 - k) q : Nat)) →
    Fr (d + k + 2) MX6_extend [mA 2, mI (8 - k : Nat), mL (cU e (h 15) (8 - k)), mL (lU e (h 15) (8 - k))] h (fun r g => r = none ∧ SM h g ∧ (∀ j, (j < 8 - k ∨ isP e j = false) → g 15 j = h 15 j) ∧ SG g = ext e lw k (h 15) (SG h)) := by
  intro k
  induction k with
  | zero =>
    intro _ d h ee hs hg Q hq X hX hR
    have hc := cU_rng hE (h 15) (p := 8) (by omega)
    have hb : 0 ≤ h 2 8 ∧ h 2 8 ≤ 4611686018427387904 := hs.1
    have pr : h 2 8 / 32 < cU e (h 15) 8 / 32 → Q none h := fun z => hq _ _ ⟨rfl, SM.rf, fun _ _ => rfl, (prune1 (k := 0) hE (by omega) z).symm⟩
    show VW X 0 [some (mA 2), some (mI 8), some (mL (cU e (h 15) 8)), none, some (mL (lU e (h 15) 8)), none, none, none, none, none, none] [] h
    refine v_lload_n hX eX6_extend_0 rfl ?_
    refine v_iconst hX eX6_extend_1 ?_
    refine v_lshr hX eX6_extend_2 ?_
    rw [lshr5 (by omega)]
    refine v_aload_n hX eX6_extend_3 rfl ?_
    refine v_getL hX eX6_extend_4 fi_X6_98 ⟨by decide, rfl⟩ ?_
    refine v_iconst hX eX6_extend_7 ?_
    refine v_lshr hX eX6_extend_8 ?_
    rw [lshr5 (by omega)]
    refine v_lcmp hX eX6_extend_9 ⟨by omega, by omega⟩ ⟨by omega, by omega⟩ ?_
    refine v_if_le hX eX6_extend_10 (tgt := 14) rfl (lcm_rng _ _) (fun c10 => ?_) (fun c10 => ?_)
    · refine v_iload_n hX eX6_extend_14 rfl ?_
      refine v_if_lt hX eX6_extend_15 (tgt := 24) rfl ⟨by omega, by omega⟩ (fun c15 => False.elim ((by omega))) (fun c15 => ?_)
      refine v_iload_n hX eX6_extend_18 rfl ?_
      refine v_bipush hX eX6_extend_19 (by decide) ?_
      refine v_icmp_lt hX eX6_extend_21 (tgt := 32) rfl ⟨by omega, by omega⟩ ⟨by omega, by omega⟩ (fun c21 => False.elim ((by omega))) (fun c21 => ?_)
      refine v_aload_n hX eX6_extend_24 rfl ?_
      refine v_lload_n hX eX6_extend_25 rfl ?_
      refine v_lload hX eX6_extend_26 rfl ?_
      refine v_frV hX eX6_extend_28 lV_X6_113 ok_MX6_judge ⟨by decide, rfl⟩ rfl ⟨rfl, Nat.le_of_ble_eq_true rfl⟩ (Nat.le_of_ble_eq_true rfl) (c_X6_judge hE hlw ee hs hg) rfl ?_
      rintro r g ⟨rfl, g1, g2, g3⟩
      exact v_return hX hR eX6_extend_31 rfl (hq _ _ ⟨rfl, g1, fun j _ => by rw [g2], g3⟩)
    · exact v_return hX hR eX6_extend_13 rfl (pr (by have : ¬ (cU e (h 15) 8 / 32 ≤ h 2 8 / 32) := fun z => c10 (lcm_le.mpr z); omega))
  | succ k ih =>
    intro hk d h ee hs hg Q hq X hX hR
    obtain ⟨a1, a2, a3, a4, a5, a6, a7, a8⟩ := id ee
    have ep : 8 - (k + 1) = 7 - k := by omega
    have ep2 : 8 - k = 7 - k + 1 := by omega
    rw [ep] at hg hq ⊢
    have hc := cU_rng hE (h 15) (p := 7 - k) (by omega)
    have hb : 0 ≤ h 2 8 ∧ h 2 8 ≤ 4611686018427387904 := hs.1
    have hQ := hE.2.1
    have pr : h 2 8 / 32 < cU e (h 15) (7 - k) / 32 → Q none h := fun z => hq _ _ ⟨rfl, SM.rf, fun _ _ => rfl, (prune1 (k := k + 1) hE (by omega) (by rw [ep]; exact z)).symm⟩
    have hpr : 0 ≤ h 2 6 ∧ h 2 6 ≤ 255 := by rw [a1]; exact hE.1
    have ei : isP h (7 - k) = isP e (7 - k) := by unfold isP; rw [a1]
    have loop : isP e (7 - k) = true → ∀ (m i : Nat), i + m = (e 2 7).toNat → ∀ (g : Hp), SM h g → (∀ j, (j < 7 - k ∨ isP e j = false) → g 15 j = h 15 j) → SG g = foldq (fun q s => ext e lw k (setT (h 15) (7 - k) q) s) i (SG h) → ∀ l7 l8 l9 l10,
        VW X 54 [some (mA 2), some (mI (7 - k : Nat)), some (mL (cU e (h 15) (7 - k))), none, some (mL (lU e (h 15) (7 - k))), none, some (mI i), l7, l8, l9, l10] [] g := by
      intro hp m
      induction m with
      | zero =>
        intro i hi g g1 g2 g3 l7 l8 l9 l10
        have e27 : g 2 7 = e 2 7 := by rw [g1.2 7 (by decide) (by decide) (by decide), a2]
        refine v_iload hX eX6_extend_54 rfl ?_
        refine v_aload_n hX eX6_extend_56 rfl ?_
        refine v_getI hX eX6_extend_57 fi_X6_55 ⟨by decide, rfl⟩ ?_
        rw [e27]
        refine v_icmp_ge hX eX6_extend_60 (tgt := 176) rfl ⟨by omega, by omega⟩ ⟨by omega, by omega⟩ (fun c60 => ?_) (fun c60 => False.elim ((by omega)))
        exact v_return hX hR eX6_extend_176 rfl (hq _ _ ⟨rfl, g1, g2, by rw [g3, ext, if_pos hp, show i = (e 2 7).toNat by omega]⟩)
      | succ m ihm =>
        intro i hi g g1 g2 g3 l7 l8 l9 l10
        have eg := ee.sm g1
        obtain ⟨b1, b2, b3, b4, b5, b6, b7, b8⟩ := id eg
        have e14 : g 14 = h 14 := g1.1 14 (by decide) (by decide) (by decide)
        have gi := hg i (by omega)
        have hgl : gU e (h 15) (7 - k) i < 256 := gU_lt (by omega)
        have hpl : gU e (h 15) (7 - k) i ||| 2 ^ (7 - k) < 256 := put_lt hgl (by omega)
        have h18 := (hE.2.2.2.2.1 _ hpl).2
        have sg : SOK (SG g) := by
          rw [g3]
          exact foldq_inv (P := SOK) (fun q s hs => ext_ok hE k _ s hs) _ _ hs
        have h13 := hE.2.2.2.1 (7 - k) (by omega)
        have next : ∀ g', SM h g' → (∀ j, (j < 7 - k ∨ isP e j = false) → g' 15 j = h 15 j) → SG g' = foldq (fun q s => ext e lw k (setT (h 15) (7 - k) q) s) (i + 1) (SG h) → ∀ l7 l8 l9 l10, VW X 170 [some (mA 2), some (mI (7 - k : Nat)), some (mL (cU e (h 15) (7 - k))), none, some (mL (lU e (h 15) (7 - k))), none, some (mI i), l7, l8, l9, l10] [] g' := by
          intro g' n1 n2 n3 l7 l8 l9 l10
          refine v_iinc hX eX6_extend_170 rfl rfl rfl ?_
          exact v_goto hX eX6_extend_173 (tgt := 54) rfl (ihm (i + 1) (by omega) g' n1 n2 n3 _ _ _ _)
        by_cases hcg : (e 18 (gU e (h 15) (7 - k) i ||| 2 ^ (7 - k))).toNat.testBit i = true
        · -- the heap in which the call is made
          let g2' : Hp := up (up g 14 i (gU e (h 15) (7 - k) i ||| 2 ^ (7 - k) : Nat)) 15 (7 - k) i
          have t2 : ∀ j, g2' 15 j = if j = 7 - k then (i : Int) else g 15 j := fun j => by
            show up (up g 14 i _) 15 (7 - k) i 15 j = _
            by_cases hj : j = 7 - k
            · subst hj; rw [up_same, if_pos rfl]
            · rw [up_ne (fun z => hj z.2), up_ob (by decide), if_neg hj]
          have ag : ∀ j, j < 7 - k → isP e j = true → g2' 15 j = h 15 j := fun j hj _ => by
            rw [t2, if_neg (by omega), g2 j (Or.inl hj)]
          have sm2 : SM g2' g2' := SM.rf
          have ee2 : EE e lw g2' := ⟨by rw [← b1]; rfl, by rw [← b2]; rfl, by rw [← b3]; rfl, by rw [← b4]; exact (up_obf (by decide)).trans (up_obf (by decide)), by rw [← b5]; exact (up_obf (by decide)).trans (up_obf (by decide)), by rw [← b6]; exact (up_obf (by decide)).trans (up_obf (by decide)), by rw [← b7]; exact (up_obf (by decide)).trans (up_obf (by decide)), by rw [← b8]; exact (up_obf (by decide)).trans (up_obf (by decide))⟩
          have s2 : SG g2' = SG g := by
            have : g2' 16 = g 16 := (up_obf (by decide)).trans (up_obf (by decide))
            unfold SG
            rw [this]
            rfl
          have gr : ∀ q : Nat, q < 5 → g2' 14 q = (gU e (g2' 15) (8 - k) q : Nat) := fun q hq5 => by
            rw [ep2, gU_s, t2, if_pos rfl, gU_congr ag]
            show up (up g 14 i _) 15 (7 - k) i 14 q = _
            rw [up_ob (by decide)]
            by_cases hqi : q = i
            · subst hqi
              rw [up_same, if_pos ⟨hp, rfl⟩]
            · rw [up_ne (fun z => hqi z.2), e14, hg q hq5, if_neg (fun z => hqi (by omega))]
          have cs : cU e (h 15) (7 - k) + e 19 ((((7 - k : Nat) : Int) * 6 + colI i).toNat) - (bcnt (gU e (h 15) (7 - k) i &&& (e 13 (7 - k)).toNat) : Nat) = cU e (g2' 15) (8 - k) := by
            rw [ep2]
            unfold cU
            rw [cA, prs, if_pos hp, if_pos hp, cA_congr (u := h 15) (7 - k) ag, prs_congr (u := h 15) (7 - k) ag, t2, if_pos rfl, gU_congr ag, ixC, t2, if_pos rfl]
            omega
          have lt : lU e (h 15) (7 - k) + e 20 ((((7 - k : Nat) : Int) * 6 + colI i).toNat) = lU e (g2' 15) (8 - k) := by
            rw [ep2, lU, if_pos hp, lU_congr (u := h 15) (7 - k) ag, ixC, t2, if_pos rfl]
          have call := ih (by omega) d g2' ee2 (by rw [s2]; exact sg) gr
          have fin : ∀ g3' : Hp, SM g2' g3' → (∀ j, (j < 8 - k ∨ isP e j = false) → g3' 15 j = g2' 15 j) → SG g3' = ext e lw k (g2' 15) (SG g2') → ∀ l7 l8 l9 l10, VW X 170 [some (mA 2), some (mI (7 - k : Nat)), some (mL (cU e (h 15) (7 - k))), none, some (mL (lU e (h 15) (7 - k))), none, some (mI i), l7, l8, l9, l10] [] (up g3' 14 i (gU e (h 15) (7 - k) i : Nat)) := by
            intro g3' m1 m2 m3 l7 l8 l9 l10
            have e3 : g3' 14 = g2' 14 := m1.1 14 (by decide) (by decide) (by decide)
            refine next _ ?_ ?_ ?_ _ _ _ _
            · refine SM.tr g1 ⟨fun a h1 h2 h3 => ?_, fun j h1 h2 h3 => ?_⟩
              · by_cases ha : a = 14
                · subst ha
                  funext b
                  by_cases hb : b = i
                  · subst hb; rw [up_same, e14, gi]
                  · rw [up_ne (fun z => hb z.2), e3]
                    show up (up g 14 i _) 15 (7 - k) i 14 b = _
                    rw [up_ob (by decide), up_ne (fun z => hb z.2)]
                · rw [up_obf ha, m1.1 a h1 h2 h3]
                  exact (up_obf h2).trans (up_obf ha)
              · rw [up_ob (by decide), m1.2 j h1 h2 h3]
                exact (up_ob (by decide)).trans (up_ob (by decide))
            · intro j hj
              have hne : j ≠ 7 - k := fun z => by
                rcases hj with hj | hj
                · omega
                · rw [z, hp] at hj; cases hj
              rw [up_ob (by decide), m2 j (by rcases hj with hj | hj; left; omega; right; exact hj), t2, if_neg hne, g2 j hj]
            · rw [show SG (up g3' 14 i (gU e (h 15) (7 - k) i : Nat)) = SG g3' from rfl, m3, s2, foldq, ← g3]
              refine ext_congr k _ _ _ (by omega) (fun j hj8 hj => ?_)
              rw [t2, setT]
              split
              · rfl
              · rename_i hne
                exact g2 j (by rcases hj with hj | hj; left; omega; right; exact hj)
          refine v_iload hX eX6_extend_54 rfl ?_
          refine v_aload_n hX eX6_extend_56 rfl ?_
          refine v_getI hX eX6_extend_57 fi_X6_55 ⟨by decide, rfl⟩ ?_
          rw [b2]
          refine v_icmp_ge hX eX6_extend_60 (tgt := 176) rfl ⟨by omega, by omega⟩ ⟨by omega, by omega⟩ (fun c60 => False.elim ((by omega))) (fun c60 => ?_)
          refine v_aload_n hX eX6_extend_63 rfl ?_
          refine v_getA hX eX6_extend_64 fi_X6_29 ⟨by decide, rfl⟩ rfl ?_
          refine v_iload hX eX6_extend_67 rfl ?_
          refine v_iald hX eX6_extend_69 (by first | exact ⟨by decide, rfl⟩ | exact AR_rk (by omega)) ⟨by omega, by omega⟩ ?_
          try simp only [Int.toNat_natCast, Int.toNat_zero, Int.reduceToNat]
          rw [e14, gi]
          refine v_istore hX eX6_extend_70 rfl rfl ?_
          refine v_iload hX eX6_extend_72 rfl ?_
          refine v_iconst hX eX6_extend_74 ?_
          refine v_iload_n hX eX6_extend_75 rfl ?_
          refine v_ishl hX eX6_extend_76 ?_
          refine v_ior hX eX6_extend_77 ?_
          rw [wb_put hgl (by omega)]
          refine v_istore hX eX6_extend_78 rfl rfl ?_
          refine v_aload_n hX eX6_extend_80 rfl ?_
          refine v_getA hX eX6_extend_81 fi_X6_12 ⟨by decide, rfl⟩ rfl ?_
          refine v_iload hX eX6_extend_84 rfl ?_
          refine v_iload hX eX6_extend_86 rfl ?_
          refine v_fnV hX eX6_extend_88 lV_X6_117 ok_MX0_canGrow ⟨by decide, rfl⟩ rfl ⟨rfl, Nat.le_of_ble_eq_true rfl⟩ (Nat.le_of_ble_eq_true rfl) (c_X0_canGrow hpl ⟨by omega, by omega⟩ (by rw [b6]; exact h18)) rfl ?_
          try simp only [Int.toNat_natCast, Int.toNat_zero, Int.reduceToNat]
          rw [b6]
          refine v_ifB_eq hX eX6_extend_91 (tgt := 170) rfl (fun c91 => False.elim (c91 hcg)) (fun c91 => ?_)
          refine v_iload hX eX6_extend_94 rfl ?_
          refine v_aload_n hX eX6_extend_96 rfl ?_
          refine v_getA hX eX6_extend_97 fi_X6_25 ⟨by decide, rfl⟩ rfl ?_
          refine v_iload_n hX eX6_extend_100 rfl ?_
          refine v_iald hX eX6_extend_101 (by first | exact ⟨by decide, rfl⟩ | exact AR_rk (by omega)) ⟨by omega, by omega⟩ ?_
          try simp only [Int.toNat_natCast, Int.toNat_zero, Int.reduceToNat]
          rw [b4]
          refine v_iand hX eX6_extend_102 ?_
          rw [band_z hgl h13]
          refine v_fnS hX eX6_extend_103 lS_X6_121 ok_MJ6_bitCount_0f7a4 ⟨rfl, Nat.le_of_ble_eq_true rfl⟩ (Nat.le_of_ble_eq_true rfl) (c_bitCount (and_lt8 hgl)) rfl ?_
          try simp only [Int.toNat_natCast, Int.toNat_zero, Int.reduceToNat]
          refine v_i2l hX eX6_extend_106 ⟨by have := bcnt_le (gU e (h 15) (7 - k) i &&& (e 13 (7 - k)).toNat); omega, by have := bcnt_le (gU e (h 15) (7 - k) i &&& (e 13 (7 - k)).toNat); omega⟩ ?_
          refine v_lstore hX eX6_extend_107 rfl rfl ?_
          refine v_aload_n hX eX6_extend_109 rfl ?_
          refine v_getA hX eX6_extend_110 fi_X6_29 ⟨by decide, rfl⟩ rfl ?_
          refine v_iload hX eX6_extend_113 rfl ?_
          refine v_iload hX eX6_extend_115 rfl ?_
          refine v_iast hX eX6_extend_117 (by first | exact ⟨by decide, rfl⟩ | exact AR_rk (by omega)) ⟨by omega, by omega⟩ ?_
          try simp only [Int.toNat_natCast, Int.toNat_zero, Int.reduceToNat]
          refine v_aload_n hX eX6_extend_118 rfl ?_
          refine v_getA hX eX6_extend_119 fi_X6_32 ⟨by decide, rfl⟩ rfl ?_
          refine v_iload_n hX eX6_extend_122 rfl ?_
          refine v_iload hX eX6_extend_123 rfl ?_
          refine v_iast hX eX6_extend_125 (by first | exact ⟨by decide, rfl⟩ | exact AR_rk (by omega)) ⟨by omega, by omega⟩ ?_
          try simp only [Int.toNat_natCast, Int.toNat_zero, Int.reduceToNat]
          refine v_aload_n hX eX6_extend_126 rfl ?_
          refine v_iload_n hX eX6_extend_127 rfl ?_
          refine v_iconst hX eX6_extend_128 ?_
          refine v_iadd hX eX6_extend_129 ?_
          refine v_lload_n hX eX6_extend_130 rfl ?_
          refine v_aload_n hX eX6_extend_131 rfl ?_
          refine v_getA hX eX6_extend_132 fi_X6_21 ⟨by decide, rfl⟩ rfl ?_
          refine v_iload_n hX eX6_extend_135 rfl ?_
          refine v_iload hX eX6_extend_136 rfl ?_
          refine v_fnV hX eX6_extend_138 lV_X6_87 ok_MX5_costOf ⟨by decide, rfl⟩ rfl ⟨rfl, Nat.le_of_ble_eq_true rfl⟩ (Nat.le_of_ble_eq_true rfl) (c_X5_costOf (by omega) ⟨by omega, by omega⟩) rfl ?_
          try simp only [Int.toNat_natCast, Int.toNat_zero, Int.reduceToNat]
          rw [show up (up g 14 i (gU e (h 15) (7 - k) i ||| 2 ^ (7 - k) : Nat)) 15 (7 - k) i 19 = e 19 from ee2.2.2.2.2.2.2.1]
          refine v_ladd hX eX6_extend_141 ?_
          refine v_lload hX eX6_extend_142 rfl ?_
          refine v_lsub hX eX6_extend_144 ?_
          refine v_lload hX eX6_extend_145 rfl ?_
          refine v_aload_n hX eX6_extend_147 rfl ?_
          refine v_getA hX eX6_extend_148 fi_X6_21 ⟨by decide, rfl⟩ rfl ?_
          refine v_iload_n hX eX6_extend_151 rfl ?_
          refine v_iload hX eX6_extend_152 rfl ?_
          refine v_fnV hX eX6_extend_154 lV_X6_95 ok_MX5_digitOf ⟨by decide, rfl⟩ rfl ⟨rfl, Nat.le_of_ble_eq_true rfl⟩ (Nat.le_of_ble_eq_true rfl) (c_X5_digitOf (by omega) ⟨by omega, by omega⟩) rfl ?_
          try simp only [Int.toNat_natCast, Int.toNat_zero, Int.reduceToNat]
          rw [show up (up g 14 i (gU e (h 15) (7 - k) i ||| 2 ^ (7 - k) : Nat)) 15 (7 - k) i 20 = e 20 from ee2.2.2.2.2.2.2.2]
          refine v_ladd hX eX6_extend_157 ?_
          rw [cs, lt, show (((7 - k : Nat) : Int) + 1) = ((8 - k : Nat) : Int) by omega]
          refine v_frS hX eX6_extend_158 lS_X6_109 ok_MX6_extend ⟨rfl, Nat.le_of_ble_eq_true rfl⟩ (Nat.le_of_ble_eq_true rfl) (call) rfl ?_
          rintro r g3' ⟨rfl, m1, m2, m3⟩
          refine v_aload_n hX eX6_extend_161 rfl ?_
          refine v_getA hX eX6_extend_162 fi_X6_29 ⟨by decide, rfl⟩ rfl ?_
          refine v_iload hX eX6_extend_165 rfl ?_
          refine v_iload hX eX6_extend_167 rfl ?_
          refine v_iast hX eX6_extend_169 (by first | exact ⟨by decide, rfl⟩ | exact AR_rk (by omega)) ⟨by omega, by omega⟩ ?_
          try simp only [Int.toNat_natCast, Int.toNat_zero, Int.reduceToNat]
          exact fin g3' m1 m2 m3 _ _ _ _
        · have hno : SG g = foldq (fun q s => ext e lw k (setT (h 15) (7 - k) q) s) (i + 1) (SG h) := by
            rw [foldq, ← g3]
            exact (prune2 hE (by omega) hp (by omega) hcg).symm
          refine v_iload hX eX6_extend_54 rfl ?_
          refine v_aload_n hX eX6_extend_56 rfl ?_
          refine v_getI hX eX6_extend_57 fi_X6_55 ⟨by decide, rfl⟩ ?_
          rw [b2]
          refine v_icmp_ge hX eX6_extend_60 (tgt := 176) rfl ⟨by omega, by omega⟩ ⟨by omega, by omega⟩ (fun c60 => False.elim ((by omega))) (fun c60 => ?_)
          refine v_aload_n hX eX6_extend_63 rfl ?_
          refine v_getA hX eX6_extend_64 fi_X6_29 ⟨by decide, rfl⟩ rfl ?_
          refine v_iload hX eX6_extend_67 rfl ?_
          refine v_iald hX eX6_extend_69 (by first | exact ⟨by decide, rfl⟩ | exact AR_rk (by omega)) ⟨by omega, by omega⟩ ?_
          try simp only [Int.toNat_natCast, Int.toNat_zero, Int.reduceToNat]
          rw [e14, gi]
          refine v_istore hX eX6_extend_70 rfl rfl ?_
          refine v_iload hX eX6_extend_72 rfl ?_
          refine v_iconst hX eX6_extend_74 ?_
          refine v_iload_n hX eX6_extend_75 rfl ?_
          refine v_ishl hX eX6_extend_76 ?_
          refine v_ior hX eX6_extend_77 ?_
          rw [wb_put hgl (by omega)]
          refine v_istore hX eX6_extend_78 rfl rfl ?_
          refine v_aload_n hX eX6_extend_80 rfl ?_
          refine v_getA hX eX6_extend_81 fi_X6_12 ⟨by decide, rfl⟩ rfl ?_
          refine v_iload hX eX6_extend_84 rfl ?_
          refine v_iload hX eX6_extend_86 rfl ?_
          refine v_fnV hX eX6_extend_88 lV_X6_117 ok_MX0_canGrow ⟨by decide, rfl⟩ rfl ⟨rfl, Nat.le_of_ble_eq_true rfl⟩ (Nat.le_of_ble_eq_true rfl) (c_X0_canGrow hpl ⟨by omega, by omega⟩ (by rw [b6]; exact h18)) rfl ?_
          try simp only [Int.toNat_natCast, Int.toNat_zero, Int.reduceToNat]
          rw [b6]
          refine v_ifB_eq hX eX6_extend_91 (tgt := 170) rfl (fun c91 => ?_) (fun c91 => False.elim (hcg c91))
          exact next g g1 g2 hno _ _ _ _
    show VW X 0 [some (mA 2), some (mI (7 - k : Nat)), some (mL (cU e (h 15) (7 - k))), none, some (mL (lU e (h 15) (7 - k))), none, none, none, none, none, none] [] h
    by_cases hp : isP e (7 - k) = true
    · refine v_lload_n hX eX6_extend_0 rfl ?_
      refine v_iconst hX eX6_extend_1 ?_
      refine v_lshr hX eX6_extend_2 ?_
      rw [lshr5 (by omega)]
      refine v_aload_n hX eX6_extend_3 rfl ?_
      refine v_getL hX eX6_extend_4 fi_X6_98 ⟨by decide, rfl⟩ ?_
      refine v_iconst hX eX6_extend_7 ?_
      refine v_lshr hX eX6_extend_8 ?_
      rw [lshr5 (by omega)]
      refine v_lcmp hX eX6_extend_9 ⟨by omega, by omega⟩ ⟨by omega, by omega⟩ ?_
      refine v_if_le hX eX6_extend_10 (tgt := 14) rfl (lcm_rng _ _) (fun c10 => ?_) (fun c10 => ?_)
      · refine v_iload_n hX eX6_extend_14 rfl ?_
        refine v_if_lt hX eX6_extend_15 (tgt := 24) rfl ⟨by omega, by omega⟩ (fun c15 => False.elim ((by omega))) (fun c15 => ?_)
        refine v_iload_n hX eX6_extend_18 rfl ?_
        refine v_bipush hX eX6_extend_19 (by decide) ?_
        refine v_icmp_lt hX eX6_extend_21 (tgt := 32) rfl ⟨by omega, by omega⟩ ⟨by omega, by omega⟩ (fun c21 => ?_) (fun c21 => False.elim ((by omega)))
        refine v_aload_n hX eX6_extend_32 rfl ?_
        refine v_iload_n hX eX6_extend_33 rfl ?_
        refine v_fnV hX eX6_extend_34 lV_X6_83 ok_MX6_isPresent ⟨by decide, rfl⟩ rfl ⟨rfl, Nat.le_of_ble_eq_true rfl⟩ (Nat.le_of_ble_eq_true rfl) (c_X6_isPresent (by omega) hpr) rfl ?_
        try simp only [Int.toNat_natCast, Int.toNat_zero, Int.reduceToNat]
        rw [ei]
        refine v_ifB_ne hX eX6_extend_37 (tgt := 51) rfl (fun c37 => ?_) (fun c37 => False.elim (c37 hp))
        refine v_iconst hX eX6_extend_51 ?_
        refine v_istore hX eX6_extend_52 rfl rfl ?_
        exact loop hp (e 2 7).toNat 0 (by omega) h SM.rf (fun _ _ => rfl) rfl _ _ _ _
      · exact v_return hX hR eX6_extend_13 rfl (pr (by have : ¬ (cU e (h 15) (7 - k) / 32 ≤ h 2 8 / 32) := fun z => c10 (lcm_le.mpr z); omega))
    · have ec : cU e (h 15) (8 - k) = cU e (h 15) (7 - k) := by
        rw [ep2]
        unfold cU
        rw [cA, prs, if_neg hp, if_neg hp]
        omega
      have el : lU e (h 15) (8 - k) = lU e (h 15) (7 - k) := by
        rw [ep2, lU, if_neg hp]
        omega
      have call := ih (by omega) d h ee hs (fun q hq5 => by rw [ep2, gU_s, if_neg (fun z => hp z.1)]; exact hg q hq5)
      rw [ec, el] at call
      have hf : isP e (7 - k) = false := by simpa using hp
      refine v_lload_n hX eX6_extend_0 rfl ?_
      refine v_iconst hX eX6_extend_1 ?_
      refine v_lshr hX eX6_extend_2 ?_
      rw [lshr5 (by omega)]
      refine v_aload_n hX eX6_extend_3 rfl ?_
      refine v_getL hX eX6_extend_4 fi_X6_98 ⟨by decide, rfl⟩ ?_
      refine v_iconst hX eX6_extend_7 ?_
      refine v_lshr hX eX6_extend_8 ?_
      rw [lshr5 (by omega)]
      refine v_lcmp hX eX6_extend_9 ⟨by omega, by omega⟩ ⟨by omega, by omega⟩ ?_
      refine v_if_le hX eX6_extend_10 (tgt := 14) rfl (lcm_rng _ _) (fun c10 => ?_) (fun c10 => ?_)
      · refine v_iload_n hX eX6_extend_14 rfl ?_
        refine v_if_lt hX eX6_extend_15 (tgt := 24) rfl ⟨by omega, by omega⟩ (fun c15 => False.elim ((by omega))) (fun c15 => ?_)
        refine v_iload_n hX eX6_extend_18 rfl ?_
        refine v_bipush hX eX6_extend_19 (by decide) ?_
        refine v_icmp_lt hX eX6_extend_21 (tgt := 32) rfl ⟨by omega, by omega⟩ ⟨by omega, by omega⟩ (fun c21 => ?_) (fun c21 => False.elim ((by omega)))
        refine v_aload_n hX eX6_extend_32 rfl ?_
        refine v_iload_n hX eX6_extend_33 rfl ?_
        refine v_fnV hX eX6_extend_34 lV_X6_83 ok_MX6_isPresent ⟨by decide, rfl⟩ rfl ⟨rfl, Nat.le_of_ble_eq_true rfl⟩ (Nat.le_of_ble_eq_true rfl) (c_X6_isPresent (by omega) hpr) rfl ?_
        try simp only [Int.toNat_natCast, Int.toNat_zero, Int.reduceToNat]
        rw [ei]
        refine v_ifB_ne hX eX6_extend_37 (tgt := 51) rfl (fun c37 => False.elim (hp c37)) (fun c37 => ?_)
        refine v_aload_n hX eX6_extend_40 rfl ?_
        refine v_iload_n hX eX6_extend_41 rfl ?_
        refine v_iconst hX eX6_extend_42 ?_
        refine v_iadd hX eX6_extend_43 ?_
        refine v_lload_n hX eX6_extend_44 rfl ?_
        refine v_lload hX eX6_extend_45 rfl ?_
        rw [show (((7 - k : Nat) : Int) + 1) = ((8 - k : Nat) : Int) by omega]
        refine v_frS hX eX6_extend_47 lS_X6_109 ok_MX6_extend ⟨rfl, Nat.le_of_ble_eq_true rfl⟩ (Nat.le_of_ble_eq_true rfl) (call) rfl ?_
        rintro r g ⟨rfl, m1, m2, m3⟩
        exact v_return hX hR eX6_extend_50 rfl (hq _ _ ⟨rfl, m1, fun j hj => m2 j (by rcases hj with hj | hj; left; omega; right; exact hj), by rw [m3, ext, if_neg hp]⟩)
      · exact v_return hX hR eX6_extend_13 rfl (pr (by have : ¬ (cU e (h 15) (7 - k) / 32 ≤ h 2 8 / 32) := fun z => c10 (lcm_le.mpr z); omega))
