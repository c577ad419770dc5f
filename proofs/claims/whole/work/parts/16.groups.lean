def alw (h : Hp) (q g : Nat) : Prop := (∀ f : Int, 3 ≤ f → f ≤ 6 → ¬ ghas h f q g) ∧ ∀ p, p < (h 1 3).toNat → g.testBit p = true → ∀ b, b < 8 → apB h p b = true → g.testBit b = false
set_option maxHeartbeats 2000000 in
set_option maxRecDepth 20000 in
theorem c_X4_allows {d : Nat} {h : Hp} {q : Int} {g : Nat} (hI : RI h) (hq5 : 0 ≤ q ∧ q < 5) (hg : g < 256) : Fn (d + 3) MX4_allows [mA 1, mI q, mI g] h (some (mI (b01 (alw h q.toNat g)))) h := by
  intro Q hq X hX hR
  have hn := hI.n
  have loop2 : (∀ f : Int, 3 ≤ f → f ≤ 6 → ¬ ghas h f q.toNat g) → ∀ (k i : Nat), i + k = (h 1 3).toNat → (∀ p, p < i → g.testBit p = true → ∀ b, b < 8 → apB h p b = true → g.testBit b = false) → VW X 28 [some (mA 1), some (mI q), some (mI g), some (mI i)] [] h := by
    intro hf k
    induction k with
    | zero =>
      intro i hi hp
      refine v_iload_n hX eX4_allows_28 rfl ?_
      refine v_aload_n hX eX4_allows_29 rfl ?_
      refine v_getI hX eX4_allows_30 fi_X4_29 ⟨by decide, rfl⟩ ?_
      refine v_icmp_ge hX eX4_allows_33 (tgt := 66) rfl ⟨by omega, by omega⟩ ⟨by omega, by omega⟩ (fun c33 => ?_) (fun c33 => False.elim ((by omega)))
      refine v_iconst hX eX4_allows_66 ?_
      exact v_zreturn hX hR eX4_allows_67 rfl (by omega) (q_t ⟨hf, fun p hp2 => hp p (by omega)⟩ hq)
    | succ k ih =>
      intro i hi hp
      have ha := (hI.pu (p := i) (by omega)).2.2.2.2.1
      have bn := band_none ha hg
      refine v_iload_n hX eX4_allows_28 rfl ?_
      refine v_aload_n hX eX4_allows_29 rfl ?_
      refine v_getI hX eX4_allows_30 fi_X4_29 ⟨by decide, rfl⟩ ?_
      refine v_icmp_ge hX eX4_allows_33 (tgt := 66) rfl ⟨by omega, by omega⟩ ⟨by omega, by omega⟩ (fun c33 => False.elim ((by omega))) (fun c33 => ?_)
      refine v_iload_n hX eX4_allows_36 rfl ?_
      refine v_iload_n hX eX4_allows_37 rfl ?_
      refine v_ishr hX eX4_allows_38 ?_
      refine v_iconst hX eX4_allows_39 ?_
      refine v_iand hX eX4_allows_40 ?_
      rw [bitB (by omega) (by omega)]
      refine v_ifB_eq hX eX4_allows_41 (tgt := 60) rfl (fun c41 => ?_) (fun c41 => ?_)
      · refine v_iinc hX eX4_allows_60 rfl rfl rfl ?_
        exact v_goto hX eX4_allows_63 (tgt := 28) rfl (ih (i + 1) (by omega) (fun p hp2 h1 => if e : p = i then absurd (e ▸ h1) c41 else hp p (by omega) h1))
      · refine v_aload_n hX eX4_allows_44 rfl ?_
        refine v_getA hX eX4_allows_45 fi_X4_11 ⟨by decide, rfl⟩ rfl ?_
        refine v_iload_n hX eX4_allows_48 rfl ?_
        refine v_aaldP hX eX4_allows_49 ⟨by decide, rfl⟩ ⟨by omega, by omega⟩ (RF_pu ⟨by omega, by omega⟩) ?_
        try simp only [Int.toNat_natCast, Int.toNat_zero, Int.reduceToNat]
        refine v_getI hX eX4_allows_50 fi_X4_92 (OB_pu (by omega)) ?_
        refine v_iload_n hX eX4_allows_53 rfl ?_
        refine v_iand hX eX4_allows_54 ?_
        refine v_if_eq hX eX4_allows_55 (tgt := 60) rfl (band_rng _ _) (fun c55 => ?_) (fun c55 => ?_)
        · refine v_iinc hX eX4_allows_60 rfl rfl rfl ?_
          exact v_goto hX eX4_allows_63 (tgt := 28) rfl (ih (i + 1) (by omega) (fun p hp2 h1 => if e : p = i then (by subst e; exact bn.mp c55) else hp p (by omega) h1))
        · refine v_iconst hX eX4_allows_58 ?_
          exact v_zreturn hX hR eX4_allows_59 rfl (by omega) (q_f (fun z => c55 (bn.mpr (fun b hb h1 => z.2 i (by omega) c41 b hb h1))) hq)
  have loop1 : ∀ (k : Nat) (f : Int), 3 ≤ f → f + k = 7 → (∀ f2 : Int, 3 ≤ f2 → f2 < f → ¬ ghas h f2 q.toNat g) → VW X 2 [some (mA 1), some (mI q), some (mI g), some (mI f)] [] h := by
    intro k
    induction k with
    | zero =>
      intro f h3 hi hp
      refine v_iload_n hX eX4_allows_2 rfl ?_
      refine v_bipush hX eX4_allows_3 (by decide) ?_
      refine v_icmp_gt hX eX4_allows_5 (tgt := 26) rfl ⟨by omega, by omega⟩ ⟨by omega, by omega⟩ (fun c5 => ?_) (fun c5 => False.elim ((by omega)))
      refine v_iconst hX eX4_allows_26 ?_
      refine v_istore_n hX eX4_allows_27 rfl rfl ?_
      exact loop2 (fun f2 a b => hp f2 a (by omega)) (h 1 3).toNat 0 (by omega) (fun p hp => absurd hp (Nat.not_lt_zero p))
    | succ k ih =>
      intro f h3 hi hp
      refine v_iload_n hX eX4_allows_2 rfl ?_
      refine v_bipush hX eX4_allows_3 (by decide) ?_
      refine v_icmp_gt hX eX4_allows_5 (tgt := 26) rfl ⟨by omega, by omega⟩ ⟨by omega, by omega⟩ (fun c5 => False.elim ((by omega))) (fun c5 => ?_)
      refine v_aload_n hX eX4_allows_8 rfl ?_
      refine v_iload_n hX eX4_allows_9 rfl ?_
      refine v_iload_n hX eX4_allows_10 rfl ?_
      refine v_iload_n hX eX4_allows_11 rfl ?_
      refine v_fnV hX eX4_allows_12 lV_X4_99 ok_MX4_groupHas ⟨by decide, rfl⟩ rfl ⟨rfl, Nat.le_of_ble_eq_true rfl⟩ (Nat.le_of_ble_eq_true rfl) (c_X4_groupHas hI ⟨by omega, by omega⟩ hq5 hg) rfl ?_
      try simp only [Int.toNat_natCast, Int.toNat_zero, Int.reduceToNat]
      refine v_ifB_eq hX eX4_allows_15 (tgt := 20) rfl (fun c15 => ?_) (fun c15 => ?_)
      · refine v_iinc hX eX4_allows_20 rfl rfl rfl ?_
        exact v_goto hX eX4_allows_23 (tgt := 2) rfl (ih (f + 1) (by omega) (by omega) (fun f2 a b => if e : f2 = f then (by subst e; exact c15) else hp f2 a (by omega)))
      · refine v_iconst hX eX4_allows_18 ?_
        exact v_zreturn hX hR eX4_allows_19 rfl (by omega) (q_f (fun z => z.1 f (by omega) (by omega) c15) hq)
  show VW X 0 [some (mA 1), some (mI q), some (mI g), none] [] h
  refine v_iconst hX eX4_allows_0 ?_
  refine v_istore_n hX eX4_allows_1 rfl rfl ?_
  exact loop1 4 3 (by decide) (by decide) (fun f2 a b => by omega)
/-! the roll's objects are the same -/
def RE (h g : Hp) : Prop := g 1 = h 1 ∧ g 10 = h 10 ∧ (∀ p, g (23 + p) = h (23 + p)) ∧ (∀ p, g (31 + p) = h (31 + p)) ∧ ∀ q, g (39 + q) = h (39 + q)
theorem RE.of {h g : Hp} (e : ∀ k, k = 1 ∨ k = 10 ∨ 23 ≤ k → g k = h k) : RE h g := ⟨e _ (by omega), e _ (by omega), fun p => e _ (by omega), fun p => e _ (by omega), fun p => e _ (by omega)⟩
theorem RE.ri {h g : Hp} (e : RE h g) (a : RI h) : RI g := by
  obtain ⟨e1, e2, e3, e4, e5⟩ := e
  simpa only [RI, PUOK, PROK, e1, e2, e3, e4, e5] using a
theorem RE.alw_eq {h g : Hp} (e : RE h g) (q x : Nat) : alw g q x = alw h q x := by
  obtain ⟨e1, e2, e3, e4, e5⟩ := e
  have hh : ∀ y b, hasF g y b = hasF h y b := fun y b => by funext p; simp only [hasF, skB, e3]
  simp only [alw, ghas, tks, rtw, lkl, lks, hh, neB, apB, e1, e3, e5]
theorem pw2 {a b : Nat} (h : a ≤ b) : 2 ^ a ≤ 2 ^ b := Nat.pow_le_pow_right (by decide) h
def sub (g x : Nat) : Prop := ∀ b, b < 8 → g.testBit b = true → x.testBit b = true
noncomputable def fitN (h : Hp) (g : Nat) : Nat := if pb (sub g (bs (prF h) (h 1 3).toNat)) = true then bs (fun q => pb (alw h q g)) (h 1 4).toNat else 0
noncomputable def opnN (h : Hp) (g : Nat) : Nat := bs (fun q => pb (∃ x, x < 256 ∧ sub g x ∧ (fitN h x).testBit q = true)) 5
noncomputable def opJ (h : Hp) (g j : Nat) : Nat := bs (fun q => pb ((fitN h g).testBit q = true ∨ ∃ p, p < j ∧ g.testBit p = false ∧ (opnN h (g ||| 2 ^ p)).testBit q = true)) 5
theorem fitN_lt {h : Hp} (hI : RI h) (g : Nat) : fitN h g < 32 := by
  unfold fitN
  split
  · exact Nat.lt_of_lt_of_le (bs_lt _ _) (pw2 (b := 5) (by have := hI.q; omega))
  · decide
theorem opnN_lt {h : Hp} (g : Nat) : opnN h g < 32 := bs_lt _ 5
theorem opJ_lt {h : Hp} (g j : Nat) : opJ h g j < 32 := bs_lt _ 5
theorem sub_rfl {g : Nat} : sub g g := fun _ _ h => h
theorem opJ_0 {h : Hp} (hI : RI h) (g : Nat) : opJ h g 0 = fitN h g := by
  refine ext8 (Nat.lt_trans (opJ_lt g 0) (by decide)) (Nat.lt_trans (fitN_lt hI g) (by decide)) (fun i _ => ?_)
  rw [opJ, bs_bit]
  by_cases hi : i < 5
  · simp only [hi, decide_true, Bool.true_and]
    cases hx : (fitN h g).testBit i
    · exact pb_f.mpr (fun z => z.elim (fun z => by cases z) (fun ⟨p, hp, _⟩ => by omega))
    · exact pb_iff.mpr (Or.inl rfl)
  · simp only [hi, decide_false, Bool.false_and]
    exact (Nat.testBit_lt_two_pow (Nat.lt_of_lt_of_le (fitN_lt hI g) (show 2 ^ 5 ≤ 2 ^ i from Nat.pow_le_pow_right (by decide) (by omega)))).symm
theorem opJ_s {h : Hp} {g j : Nat} : opJ h g (j + 1) = if g.testBit j = true then opJ h g j else opJ h g j ||| opnN h (g ||| 2 ^ j) := by
  split
  · rename_i hb
    refine bs_congr 5 (fun q hq => ?_)
    congr 1
    apply propext
    constructor
    · rintro (a | ⟨p, h1, h2, h3⟩)
      · exact Or.inl a
      · by_cases e : p = j
        · subst e; rw [hb] at h2; cases h2
        · exact Or.inr ⟨p, by omega, h2, h3⟩
    · rintro (a | ⟨p, h1, h2, h3⟩)
      · exact Or.inl a
      · exact Or.inr ⟨p, by omega, h2, h3⟩
  · rename_i hb
    have hb : g.testBit j = false := by simpa using hb
    refine ext_bits (fun q => ?_)
    rw [Nat.testBit_or, opJ, opJ, bs_bit, bs_bit]
    by_cases hq : q < 5
    · simp only [hq, decide_true, Bool.true_and]
      cases hx : (opnN h (g ||| 2 ^ j)).testBit q
      · rw [Bool.or_false]
        congr 1
        apply propext
        constructor
        · rintro (a | ⟨p, h1, h2, h3⟩)
          · exact Or.inl a
          · by_cases e : p = j
            · subst e; rw [hx] at h3; cases h3
            · exact Or.inr ⟨p, by omega, h2, h3⟩
        · rintro (a | ⟨p, h1, h2, h3⟩)
          · exact Or.inl a
          · exact Or.inr ⟨p, by omega, h2, h3⟩
      · rw [Bool.or_true]
        exact pb_iff.mpr (Or.inr ⟨j, by omega, hb, hx⟩)
    · simp only [hq, decide_false, Bool.false_and, Bool.false_or]
      exact (Nat.testBit_lt_two_pow (Nat.lt_of_lt_of_le (opnN_lt _) (show 2 ^ 5 ≤ 2 ^ q from Nat.pow_le_pow_right (by decide) (by omega)))).symm
theorem opJ_8 {h : Hp} {g : Nat} (hg : g < 256) : opJ h g 8 = opnN h g := by
  refine bs_congr 5 (fun q hq => ?_)
  congr 1
  apply propext
  constructor
  · rintro (a | ⟨p, h1, h2, h3⟩)
    · exact ⟨g, hg, sub_rfl, a⟩
    · rw [opnN, bs_bit] at h3
      simp only [hq, decide_true, Bool.true_and] at h3
      obtain ⟨x, hx, hs, hf⟩ := pb_iff.mp h3
      exact ⟨x, hx, fun b hb h4 => hs b hb (by rw [put_bit, h4]; rfl), hf⟩
  · rintro ⟨x, hx, hs, hf⟩
    by_cases e : x = g
    · subst e; exact Or.inl hf
    · have : ∃ p, p < 8 ∧ g.testBit p = false ∧ x.testBit p = true := Classical.byContradiction (fun z => e (ext8 hx hg (fun i hi => by
        cases h1 : g.testBit i
        · cases h2 : x.testBit i
          · rfl
          · exact absurd ⟨i, hi, h1, h2⟩ z
        · exact hs i hi h1)))
      obtain ⟨p, h1, h2, h3⟩ := this
      refine Or.inr ⟨p, h1, h2, ?_⟩
      rw [opnN, bs_bit]
      simp only [hq, decide_true, Bool.true_and]
      exact pb_iff.mpr ⟨x, hx, fun b hb h4 => by
        rw [put_bit] at h4
        rcases (Bool.or_eq_true _ _).mp h4 with h5 | h5
        · exact hs b hb h5
        · rw [of_decide_eq_true h5]; exact h3, hf⟩
/-! Groups.fill -/
noncomputable def FGi (h : Hp) (i : Nat) : Hp := fun a b => if a = 17 ∧ i ≤ b ∧ b < 256 then (fitN h b : Int) else if a = 18 ∧ i ≤ b ∧ b < 256 then (opnN h b : Int) else h a b
theorem FGi_ne {h : Hp} {i a : Nat} (h1 : a ≠ 17) (h2 : a ≠ 18) : FGi h i a = h a := by
  funext b
  simp [FGi, h1, h2]
theorem FGi_RE {h : Hp} {i : Nat} : RE h (FGi h i) := RE.of (fun k hk => FGi_ne (by omega) (by omega))
theorem FGi_256 {h : Hp} : FGi h 256 = h := by
  funext a b
  unfold FGi
  rw [if_neg (by omega), if_neg (by omega)]
theorem up_up {h : Hp} {k j : Nat} {v w : Int} : up (up h k j v) k j w = up h k j w := by
  funext a b
  simp only [up]
  split <;> rfl
theorem FGi_s {h : Hp} {g : Nat} (hg : g < 256) : up (up (FGi h (g + 1)) 17 g (fitN h g : Nat)) 18 g (opnN h g : Nat) = FGi h g := by
  funext a b
  simp only [up, FGi]
  by_cases e : b = g
  · subst e
    by_cases a1 : a = 17
    · subst a1; simp [hg]
    · by_cases a2 : a = 18
      · subst a2; simp [hg]
      · simp [a1, a2]
  · have : (g + 1 ≤ b) ↔ g ≤ b := by omega
    simp [e, this]
def noL (l : Option MV) : Prop := ∀ z : Int, l ≠ some (mL z)
set_option maxHeartbeats 2000000 in
set_option maxRecDepth 20000 in
theorem c_X0_fill {d : Nat} {h : Hp} (hI : RI h) : Fn (d + 4) MX0_fill [mA 11, mA 1] h none (FGi h 0) := by
  intro Q hq X hX hR
  have hn := hI.n
  have hm := hI.q
  have hpl : bs (prF h) (h 1 3).toNat < 256 := bs_lt8 _ (by omega)
  have ploop : ∀ (g : Nat) (l4 l5 : Option MV), g < 256 → (∀ l4 l5 l6, VW X 13 [some (mA 11), some (mA 1), some (mI (bs (prF h) (h 1 3).toNat : Nat)), some (mI ((g : Int) - 1)), l4, l5, l6] [] (FGi h g)) →
      ∀ j : Nat, j ≤ 8 → VW X 96 [some (mA 11), some (mA 1), some (mI (bs (prF h) (h 1 3).toNat : Nat)), some (mI g), l4, some (mI (fitN h g : Nat)), some (mI j)] [] (up (up (FGi h (g + 1)) 17 g (fitN h g : Nat)) 18 g (opJ h g j : Nat)) := by
    intro g l4 l5 hg next
    refine loop_up _ ?_ ?_
    · rw [opJ_8 hg, FGi_s hg]
      refine v_iload hX eX0_fill_96 rfl ?_
      refine v_bipush hX eX0_fill_98 (by decide) ?_
      refine v_icmp_ge hX eX0_fill_100 (tgt := 129) rfl ⟨by omega, by omega⟩ ⟨by omega, by omega⟩ (fun c100 => ?_) (fun c100 => False.elim ((by omega)))
      refine v_iinc hX eX0_fill_129 rfl rfl rfl ?_
      refine v_goto hX eX0_fill_132 (tgt := 13) rfl ?_
      exact next _ _ _
    · intro j hj ih
      have l1 := opJ_lt (h := h) g j
      have l2 := opnN_lt (h := h) (g ||| 2 ^ j)
      have pl := put_lt hg hj
      have rd : (up (up (FGi h (g + 1)) 17 g (fitN h g : Nat)) 18 g (opJ h g j : Nat)) 18 (g ||| 2 ^ j) = if g.testBit j = true then ((opJ h g j : Nat) : Int) else ((opnN h (g ||| 2 ^ j) : Nat) : Int) := by
        split
        · rename_i hb
          have e : g ||| 2 ^ j = g := ext8 pl hg (fun i hi => by
            rw [put_bit]
            by_cases e : i = j
            · subst e; rw [hb]; rfl
            · simp [e])
          rw [e, up_same]
        · rename_i hb
          have e : g ||| 2 ^ j ≠ g := fun e => hb (by rw [← e, put_bit]; simp)
          have lt : g < g ||| 2 ^ j := Nat.lt_of_le_of_ne Nat.left_le_or (Ne.symm e)
          rw [up_ne (fun z => e z.2), up_ob (by decide), FGi, if_neg (by omega), if_pos ⟨rfl, lt, pl⟩]
      have sm : (up (up (FGi h (g + 1)) 17 g (fitN h g : Nat)) 18 g (opJ h g j : Nat)) 18 g = ((opJ h g j : Nat) : Int) := up_same
      refine v_iload hX eX0_fill_96 rfl ?_
      refine v_bipush hX eX0_fill_98 (by decide) ?_
      refine v_icmp_ge hX eX0_fill_100 (tgt := 129) rfl ⟨by omega, by omega⟩ ⟨by omega, by omega⟩ (fun c100 => False.elim ((by omega))) (fun c100 => ?_)
      refine v_aload_n hX eX0_fill_103 rfl ?_
      refine v_getA hX eX0_fill_104 fi_X0_15 ⟨by decide, rfl⟩ rfl ?_
      refine v_iload_n hX eX0_fill_107 rfl ?_
      refine v_dup2 hX eX0_fill_108 rfl rfl ?_
      refine v_iald hX eX0_fill_109 (by first | exact ⟨by decide, rfl⟩ | exact AR_rk (by omega)) ⟨by omega, by omega⟩ ?_
      try simp only [Int.toNat_natCast, Int.toNat_zero, Int.reduceToNat]
      rw [sm]
      refine v_aload_n hX eX0_fill_110 rfl ?_
      refine v_getA hX eX0_fill_111 fi_X0_15 ⟨by decide, rfl⟩ rfl ?_
      refine v_iload_n hX eX0_fill_114 rfl ?_
      refine v_iconst hX eX0_fill_115 ?_
      refine v_iload hX eX0_fill_116 rfl ?_
      refine v_ishl hX eX0_fill_118 ?_
      refine v_ior hX eX0_fill_119 ?_
      rw [wb_put hg hj]
      refine v_iald hX eX0_fill_120 (by first | exact ⟨by decide, rfl⟩ | exact AR_rk (by omega)) ⟨by omega, by omega⟩ ?_
      try simp only [Int.toNat_natCast, Int.toNat_zero, Int.reduceToNat]
      rw [rd]
      refine v_ior hX eX0_fill_121 ?_
      rw [show bor ((opJ h g j : Nat) : Int) (if g.testBit j = true then ((opJ h g j : Nat) : Int) else ((opnN h (g ||| 2 ^ j) : Nat) : Int)) = ((opJ h g (j + 1) : Nat) : Int) from by
        rw [opJ_s]
        split
        · rw [bor_nat (by omega) (by omega), Nat.or_self]
        · rw [bor_nat (by omega) (by omega)]]
      refine v_iast hX eX0_fill_122 (by first | exact ⟨by decide, rfl⟩ | exact AR_rk (by omega)) ⟨by omega, by omega⟩ ?_
      try simp only [Int.toNat_natCast, Int.toNat_zero, Int.reduceToNat]
      rw [up_up]
      refine v_iinc hX eX0_fill_123 rfl rfl rfl ?_
      refine v_goto hX eX0_fill_126 (tgt := 96) rfl ?_
      exact ih
  have body : ∀ (g : Nat) (l4 l5 l6 : Option MV), g < 256 → (∀ l4 l5 l6, VW X 13 [some (mA 11), some (mA 1), some (mI (bs (prF h) (h 1 3).toNat : Nat)), some (mI ((g : Int) - 1)), l4, l5, l6] [] (FGi h g)) →
      VW X 13 [some (mA 11), some (mA 1), some (mI (bs (prF h) (h 1 3).toNat : Nat)), some (mI g), l4, l5, l6] [] (FGi h (g + 1)) := by
    intro g l4 l5 l6 hg next
    have fin : ∀ (l4 l6 : Option MV), noL l4 → VW X 77 [some (mA 11), some (mA 1), some (mI (bs (prF h) (h 1 3).toNat : Nat)), some (mI g), l4, some (mI (fitN h g : Nat)), l6] [] (FGi h (g + 1)) := by
      intro l4 l6 hl4
      have pp := ploop g l4 none hg next 0 (by omega)
      rw [opJ_0 hI] at pp
      refine v_aload_n hX eX0_fill_77 rfl ?_
      refine v_getA hX eX0_fill_78 fi_X0_9 ⟨by decide, rfl⟩ rfl ?_
      refine v_iload_n hX eX0_fill_81 rfl ?_
      refine v_iload hX eX0_fill_82 rfl ?_
      refine v_iast hX eX0_fill_84 (by first | exact ⟨by decide, rfl⟩ | exact AR_rk (by omega)) ⟨by omega, by omega⟩ ?_
      try simp only [Int.toNat_natCast, Int.toNat_zero, Int.reduceToNat]
      refine v_aload_n hX eX0_fill_85 rfl ?_
      refine v_getA hX eX0_fill_86 fi_X0_15 ⟨by decide, rfl⟩ rfl ?_
      refine v_iload_n hX eX0_fill_89 rfl ?_
      refine v_iload hX eX0_fill_90 rfl ?_
      refine v_iast hX eX0_fill_92 (by first | exact ⟨by decide, rfl⟩ | exact AR_rk (by omega)) ⟨by omega, by omega⟩ ?_
      try simp only [Int.toNat_natCast, Int.toNat_zero, Int.reduceToNat]
      refine v_iconst hX eX0_fill_93 ?_
      refine v_istore hX eX0_fill_94 rfl rfl ?_
      exact pp
    by_cases hs : sub g (bs (prF h) (h 1 3).toNat)
    · have ef : fitN h g = bs (fun q => pb (alw h q g)) (h 1 4).toNat := if_pos (pb_iff.mpr hs)
      have e0 : band g (bxor (bs (prF h) (h 1 3).toNat : Nat) (-1)) = 0 := (band_not hg hpl).mpr hs
      have qloop : ∀ i, i ≤ (h 1 4).toNat → VW X 38 [some (mA 11), some (mA 1), some (mI (bs (prF h) (h 1 3).toNat : Nat)), some (mI g), some (mI 1), some (mI (bs (fun q => pb (alw h q g)) i : Nat)), some (mI i)] [] (FGi h (g + 1)) := by
        have e1 : FGi h (g + 1) 1 4 = h 1 4 := by rw [FGi_ne (by decide) (by decide)]
        refine loop_up _ ?_ ?_
        · refine v_iload hX eX0_fill_38 rfl ?_
          refine v_if_eq hX eX0_fill_40 (tgt := 77) rfl ⟨by omega, by omega⟩ (fun c40 => False.elim ((by omega))) (fun c40 => ?_)
          refine v_iload hX eX0_fill_43 rfl ?_
          refine v_aload_n hX eX0_fill_45 rfl ?_
          refine v_getI hX eX0_fill_46 fi_X0_24 ⟨by decide, rfl⟩ ?_
          refine v_icmp_ge hX eX0_fill_49 (tgt := 77) rfl ⟨by omega, by omega⟩ ⟨by omega, by omega⟩ (fun c49 => ?_) (fun c49 => False.elim ((by omega)))
          rw [← ef]
          exact fin _ _ (fun z e => by cases e)
        · intro i hi ih
          have hb := Nat.lt_of_lt_of_le (bs_lt (fun q => pb (alw h q g)) i) (pw2 (b := 8) (by omega))
          refine v_iload hX eX0_fill_38 rfl ?_
          refine v_if_eq hX eX0_fill_40 (tgt := 77) rfl ⟨by omega, by omega⟩ (fun c40 => False.elim ((by omega))) (fun c40 => ?_)
          refine v_iload hX eX0_fill_43 rfl ?_
          refine v_aload_n hX eX0_fill_45 rfl ?_
          refine v_getI hX eX0_fill_46 fi_X0_24 ⟨by decide, rfl⟩ ?_
          refine v_icmp_ge hX eX0_fill_49 (tgt := 77) rfl ⟨by omega, by omega⟩ ⟨by omega, by omega⟩ (fun c49 => False.elim ((by omega))) (fun c49 => ?_)
          refine v_aload_n hX eX0_fill_52 rfl ?_
          refine v_iload hX eX0_fill_53 rfl ?_
          refine v_iload_n hX eX0_fill_55 rfl ?_
          refine v_fnV hX eX0_fill_56 lV_X0_28 ok_MX4_allows ⟨by decide, rfl⟩ rfl ⟨rfl, Nat.le_of_ble_eq_true rfl⟩ (Nat.le_of_ble_eq_true rfl) (c_X4_allows (FGi_RE.ri hI) ⟨by omega, by omega⟩ hg) rfl ?_
          try simp only [Int.toNat_natCast, Int.toNat_zero, Int.reduceToNat]
          rw [FGi_RE.alw_eq]
          refine v_ifB_eq hX eX0_fill_59 (tgt := 71) rfl (fun c59 => ?_) (fun c59 => ?_)
          · rw [bs, if_neg (fun z => c59 (pb_iff.mp z)), Nat.or_zero] at ih
            refine v_iinc hX eX0_fill_71 rfl rfl rfl ?_
            exact v_goto hX eX0_fill_74 (tgt := 38) rfl ih
          · refine v_iload hX eX0_fill_62 rfl ?_
            refine v_iconst hX eX0_fill_64 ?_
            refine v_iload hX eX0_fill_65 rfl ?_
            refine v_ishl hX eX0_fill_67 ?_
            refine v_ior hX eX0_fill_68 ?_
            rw [wb_put hb (by omega)]
            refine v_istore hX eX0_fill_69 rfl rfl ?_
            rw [bs, if_pos (pb_iff.mpr c59)] at ih
            refine v_iinc hX eX0_fill_71 rfl rfl rfl ?_
            exact v_goto hX eX0_fill_74 (tgt := 38) rfl ih
      have q0 := qloop 0 (by omega)
      refine v_iload_n hX eX0_fill_13 rfl ?_
      refine v_if_lt hX eX0_fill_14 (tgt := 135) rfl ⟨by omega, by omega⟩ (fun c14 => False.elim ((by omega))) (fun c14 => ?_)
      refine v_iload_n hX eX0_fill_17 rfl ?_
      refine v_iload_n hX eX0_fill_18 rfl ?_
      refine v_iconst hX eX0_fill_19 ?_
      refine v_ixor hX eX0_fill_20 ?_
      refine v_iand hX eX0_fill_21 ?_
      rw [e0]
      refine v_if_ne hX eX0_fill_22 (tgt := 29) rfl ⟨by omega, by omega⟩ (fun c22 => False.elim (c22 rfl)) (fun c22 => ?_)
      refine v_iconst hX eX0_fill_25 ?_
      refine v_goto hX eX0_fill_26 (tgt := 30) rfl ?_
      refine v_istore hX eX0_fill_30 rfl rfl ?_
      refine v_iconst hX eX0_fill_32 ?_
      refine v_istore hX eX0_fill_33 rfl rfl ?_
      refine v_iconst hX eX0_fill_35 ?_
      refine v_istore hX eX0_fill_36 rfl rfl ?_
      exact q0
    · have ef : fitN h g = 0 := if_neg (fun z => hs (pb_iff.mp z))
      have e0 : ¬ band g (bxor (bs (prF h) (h 1 3).toNat : Nat) (-1)) = 0 := fun z => hs ((band_not hg hpl).mp z)
      have f0 := fin (some (mI 0)) (some (mI 0)) (fun z e => by cases e)
      rw [ef] at f0
      refine v_iload_n hX eX0_fill_13 rfl ?_
      refine v_if_lt hX eX0_fill_14 (tgt := 135) rfl ⟨by omega, by omega⟩ (fun c14 => False.elim ((by omega))) (fun c14 => ?_)
      refine v_iload_n hX eX0_fill_17 rfl ?_
      refine v_iload_n hX eX0_fill_18 rfl ?_
      refine v_iconst hX eX0_fill_19 ?_
      refine v_ixor hX eX0_fill_20 ?_
      refine v_iand hX eX0_fill_21 ?_
      refine v_if_ne hX eX0_fill_22 (tgt := 29) rfl (band_rng _ _) (fun c22 => ?_) (fun c22 => False.elim (e0 c22))
      refine v_iconst hX eX0_fill_29 ?_
      refine v_istore hX eX0_fill_30 rfl rfl ?_
      refine v_iconst hX eX0_fill_32 ?_
      refine v_istore hX eX0_fill_33 rfl rfl ?_
      refine v_iconst hX eX0_fill_35 ?_
      refine v_istore hX eX0_fill_36 rfl rfl ?_
      refine v_iload hX eX0_fill_38 rfl ?_
      refine v_if_eq hX eX0_fill_40 (tgt := 77) rfl ⟨by omega, by omega⟩ (fun c40 => ?_) (fun c40 => False.elim ((by omega)))
      exact f0
  have loop : ∀ i : Nat, i ≤ 256 → ∀ l4 l5 l6, VW X 13 [some (mA 11), some (mA 1), some (mI (bs (prF h) (h 1 3).toNat : Nat)), some (mI ((i : Int) - 1)), l4, l5, l6] [] (FGi h i) := by
    intro i
    induction i with
    | zero =>
      intro _ l4 l5 l6
      refine v_iload_n hX eX0_fill_13 rfl ?_
      refine v_if_lt hX eX0_fill_14 (tgt := 135) rfl ⟨by omega, by omega⟩ (fun c14 => ?_) (fun c14 => False.elim ((by omega)))
      exact v_return hX hR eX0_fill_135 rfl (hq)
    | succ g ih =>
      intro hg l4 l5 l6
      rw [show ((g + 1 : Nat) : Int) - 1 = (g : Int) by omega]
      exact body g l4 l5 l6 (by omega) (ih (by omega))
  have l256 := loop 256 (by omega) none none none
  rw [FGi_256] at l256
  show VW X 0 [some (mA 11), some (mA 1), none, none, none, none, none] [] h
  refine v_aload_n hX eX0_fill_0 rfl ?_
  refine v_fnV hX eX0_fill_1 lV_X0_18 ok_MX4_presentBits ⟨by decide, rfl⟩ rfl ⟨rfl, Nat.le_of_ble_eq_true rfl⟩ (Nat.le_of_ble_eq_true rfl) (c_X4_presentBits hI) rfl ?_
  try simp only [Int.toNat_natCast, Int.toNat_zero, Int.reduceToNat]
  refine v_istore_n hX eX0_fill_4 rfl rfl ?_
  refine v_aload_n hX eX0_fill_5 rfl ?_
  refine v_getA hX eX0_fill_6 fi_X0_9 ⟨by decide, rfl⟩ rfl ?_
  refine v_alen hX eX0_fill_9 (by first | exact ⟨by decide, rfl⟩ | exact AR_rk (by omega)) ?_
  refine v_iconst hX eX0_fill_10 ?_
  refine v_isub hX eX0_fill_11 ?_
  refine v_istore_n hX eX0_fill_12 rfl rfl ?_
  exact l256
set_option maxHeartbeats 2000000 in
set_option maxRecDepth 20000 in
theorem c_X0_fits {d : Nat} {h : Hp} {q : Int} {g : Nat} (hg : g < 256) (hq5 : 0 ≤ q ∧ q < 5) (hv : 0 ≤ h 17 g ∧ h 17 g ≤ 255) : Fn d MX0_fits [mA 11, mI q, mI g] h (some (mI (b01 ((h 17 g).toNat.testBit q.toNat = true)))) h := by
  intro Q hq X hX hR
  show VW X 0 [some (mA 11), some (mI q), some (mI g)] [] h
  refine v_iload_n hX eX0_fits_0 rfl ?_
  refine v_if_lt hX eX0_fits_1 (tgt := 30) rfl ⟨by omega, by omega⟩ (fun c1 => False.elim ((by omega))) (fun c1 => ?_)
  refine v_iload_n hX eX0_fits_4 rfl ?_
  refine v_aload_n hX eX0_fits_5 rfl ?_
  refine v_getA hX eX0_fits_6 fi_X0_9 ⟨by decide, rfl⟩ rfl ?_
  refine v_alen hX eX0_fits_9 (by first | exact ⟨by decide, rfl⟩ | exact AR_rk (by omega)) ?_
  refine v_icmp_ge hX eX0_fits_10 (tgt := 30) rfl ⟨by omega, by omega⟩ ⟨by omega, by omega⟩ (fun c10 => False.elim ((by omega))) (fun c10 => ?_)
  refine v_aload_n hX eX0_fits_13 rfl ?_
  refine v_getA hX eX0_fits_14 fi_X0_9 ⟨by decide, rfl⟩ rfl ?_
  refine v_iload_n hX eX0_fits_17 rfl ?_
  refine v_iald hX eX0_fits_18 (by first | exact ⟨by decide, rfl⟩ | exact AR_rk (by omega)) ⟨by omega, by omega⟩ ?_
  try simp only [Int.toNat_natCast, Int.toNat_zero, Int.reduceToNat]
  refine v_iload_n hX eX0_fits_19 rfl ?_
  refine v_ishr hX eX0_fits_20 ?_
  refine v_iconst hX eX0_fits_21 ?_
  refine v_iand hX eX0_fits_22 ?_
  rw [bitZ hv (by omega)]
  refine v_ifB_eq hX eX0_fits_23 (tgt := 30) rfl (fun c23 => ?_) (fun c23 => ?_)
  · refine v_iconst hX eX0_fits_30 ?_
    exact v_zreturn hX hR eX0_fits_31 rfl (by omega) (q_f c23 hq)
  · refine v_iconst hX eX0_fits_26 ?_
    refine v_goto hX eX0_fits_27 (tgt := 31) rfl ?_
    exact v_zreturn hX hR eX0_fits_31 rfl (by omega) (q_t c23 hq)
set_option maxHeartbeats 2000000 in
set_option maxRecDepth 20000 in
theorem c_X0_canGrow {d : Nat} {h : Hp} {q : Int} {g : Nat} (hg : g < 256) (hq5 : 0 ≤ q ∧ q < 5) (hv : 0 ≤ h 18 g ∧ h 18 g ≤ 255) : Fn d MX0_canGrow [mA 11, mI q, mI g] h (some (mI (b01 ((h 18 g).toNat.testBit q.toNat = true)))) h := by
  intro Q hq X hX hR
  show VW X 0 [some (mA 11), some (mI q), some (mI g)] [] h
  refine v_iload_n hX eX0_canGrow_0 rfl ?_
  refine v_if_lt hX eX0_canGrow_1 (tgt := 30) rfl ⟨by omega, by omega⟩ (fun c1 => False.elim ((by omega))) (fun c1 => ?_)
  refine v_iload_n hX eX0_canGrow_4 rfl ?_
  refine v_aload_n hX eX0_canGrow_5 rfl ?_
  refine v_getA hX eX0_canGrow_6 fi_X0_15 ⟨by decide, rfl⟩ rfl ?_
  refine v_alen hX eX0_canGrow_9 (by first | exact ⟨by decide, rfl⟩ | exact AR_rk (by omega)) ?_
  refine v_icmp_ge hX eX0_canGrow_10 (tgt := 30) rfl ⟨by omega, by omega⟩ ⟨by omega, by omega⟩ (fun c10 => False.elim ((by omega))) (fun c10 => ?_)
  refine v_aload_n hX eX0_canGrow_13 rfl ?_
  refine v_getA hX eX0_canGrow_14 fi_X0_15 ⟨by decide, rfl⟩ rfl ?_
  refine v_iload_n hX eX0_canGrow_17 rfl ?_
  refine v_iald hX eX0_canGrow_18 (by first | exact ⟨by decide, rfl⟩ | exact AR_rk (by omega)) ⟨by omega, by omega⟩ ?_
  try simp only [Int.toNat_natCast, Int.toNat_zero, Int.reduceToNat]
  refine v_iload_n hX eX0_canGrow_19 rfl ?_
  refine v_ishr hX eX0_canGrow_20 ?_
  refine v_iconst hX eX0_canGrow_21 ?_
  refine v_iand hX eX0_canGrow_22 ?_
  rw [bitZ hv (by omega)]
  refine v_ifB_eq hX eX0_canGrow_23 (tgt := 30) rfl (fun c23 => ?_) (fun c23 => ?_)
  · refine v_iconst hX eX0_canGrow_30 ?_
    exact v_zreturn hX hR eX0_canGrow_31 rfl (by omega) (q_f c23 hq)
  · refine v_iconst hX eX0_canGrow_26 ?_
    refine v_goto hX eX0_canGrow_27 (tgt := 31) rfl ?_
    exact v_zreturn hX hR eX0_canGrow_31 rfl (by omega) (q_t c23 hq)
