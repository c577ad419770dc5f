/-! the model: what it holds beside the class (the roll's part) -/
def WR (c g : Hp) (p : Nat) : Prop := (0 ≤ g 47 p ∧ g 47 p ≤ 5) ∧ (∀ k : Nat, k < (g 47 p).toNat → (0 ≤ g 48 (5 * p + k) ∧ g 48 (5 * p + k) < c 1 4) ∧ c (31 + p) (g 48 (5 * p + k)).toNat = (k : Int) + 1) ∧ (∀ j : Nat, j < 5 → c (31 + p) j ≠ 6 → ∃ k, k < (g 47 p).toNat ∧ g 48 (5 * p + k) = (j : Int)) ∧ g 47 p = c (23 + p) 2
def RLr (h : Hp) : Prop := h 44 1 = h 1 3 ∧ h 44 11 = h 1 4 ∧ (∀ p : Nat, p < (h 1 3).toNat → h 45 p = h (23 + p) 1 ∧ h 46 p = h (23 + p) 6) ∧
  (∀ a b : Nat, a < (h 1 3).toNat → b < (h 1 3).toNat → (frB h a b = true ↔ h 51 (8 * a + b) = 1) ∧ (apB h a b = true ↔ h 52 (8 * a + b) = 1) ∧ (h 51 (8 * a + b) = 0 ∨ h 51 (8 * a + b) = 1) ∧ (h 52 (8 * a + b) = 0 ∨ h 52 (8 * a + b) = 1) ∧ frB h a b = frB h b a ∧ apB h a b = apB h b a) ∧
  (∀ q : Nat, q < (h 1 4).toNat → h 54 q = h (39 + q) 0 ∧ h 55 q = h (39 + q) 1 ∧ h 56 q = h (39 + q) 2 ∧ h 57 q = h (39 + q) 3 ∧ h 58 q = h (39 + q) 4 ∧ h 59 q = h (39 + q) 5) ∧
  (∀ i : Nat, i < (h 1 3).toNat → h 53 i = h 10 i ∧ 0 ≤ h 10 i ∧ h 10 i < h 1 3)
theorem RLr.n {h : Hp} (a : RLr h) : h 44 1 = h 1 3 := a.1
theorem RLr.q {h : Hp} (a : RLr h) : h 44 11 = h 1 4 := a.2.1
theorem RLr.pu {h : Hp} (a : RLr h) {p : Nat} (hp : p < (h 1 3).toNat) : h 45 p = h (23 + p) 1 ∧ h 46 p = h (23 + p) 6 := a.2.2.1 p hp
theorem RLr.fr {h : Hp} (r : RLr h) {a b : Nat} (ha : a < (h 1 3).toNat) (hb : b < (h 1 3).toNat) : (frB h a b = true ↔ h 51 (8 * a + b) = 1) ∧ (apB h a b = true ↔ h 52 (8 * a + b) = 1) ∧ (h 51 (8 * a + b) = 0 ∨ h 51 (8 * a + b) = 1) ∧ (h 52 (8 * a + b) = 0 ∨ h 52 (8 * a + b) = 1) ∧ frB h a b = frB h b a ∧ apB h a b = apB h b a := r.2.2.2.1 a b ha hb
theorem RLr.pr {h : Hp} (r : RLr h) {q : Nat} (hq : q < (h 1 4).toNat) : h 54 q = h (39 + q) 0 ∧ h 55 q = h (39 + q) 1 ∧ h 56 q = h (39 + q) 2 ∧ h 57 q = h (39 + q) 3 ∧ h 58 q = h (39 + q) 4 ∧ h 59 q = h (39 + q) 5 := r.2.2.2.2.1 q hq
theorem RLr.lot {h : Hp} (r : RLr h) {i : Nat} (hi : i < (h 1 3).toNat) : h 53 i = h 10 i ∧ 0 ≤ h 10 i ∧ h 10 i < h 1 3 := r.2.2.2.2.2 i hi
/-- WISHES and SCOREs beside the class -/
def WL (h : Hp) : Prop := ∀ p : Nat, p < (h 1 3).toNat → WR h h p ∧ h 49 p = h (23 + p) 3
/-- the same roll on both sides, but for the model's WISHES and SCOREs -/
def SR (h g : Hp) : Prop := (∀ k, k = 1 ∨ k = 10 ∨ (23 ≤ k ∧ k < 44) → g k = h k) ∧ (∀ k, k = 45 ∨ k = 46 ∨ (51 ≤ k ∧ k < 60) → g k = h k) ∧ g 44 1 = h 44 1 ∧ g 44 11 = h 44 11
theorem SR.rf {h : Hp} : SR h h := ⟨fun _ _ => rfl, fun _ _ => rfl, rfl, rfl⟩
theorem SR.tr {h g k : Hp} (a : SR h g) (b : SR g k) : SR h k := ⟨fun x hx => (b.1 x hx).trans (a.1 x hx), fun x hx => (b.2.1 x hx).trans (a.2.1 x hx), b.2.2.1.trans a.2.2.1, b.2.2.2.trans a.2.2.2⟩
theorem SR.ri {h g : Hp} (s : SR h g) (a : RI h) : RI g := a.congr s.1
theorem SR.rl {h g : Hp} (s : SR h g) (hI : RI h) (r : RLr h) : RLr g := by
  obtain ⟨s1, s2, s3, s4⟩ := s
  have hn := hI.n
  have hm := hI.q
  have e1 := s1 1 (by omega)
  have e10 := s1 10 (by omega)
  obtain ⟨r1, r2, r3, r5, r6, r7⟩ := r
  refine ⟨by rw [s3, e1]; exact r1, by rw [s4, e1]; exact r2, ?_, ?_, ?_, ?_⟩
  · rw [e1]
    intro p hp
    rw [s2 45 (by omega), s2 46 (by omega), s1 (23 + p) (by omega)]
    exact r3 p hp
  · rw [e1]
    intro a b ha hb
    have := r5 a b ha hb
    unfold frB apB at this ⊢
    rw [s2 51 (by omega), s2 52 (by omega), s1 (23 + a) (by omega), s1 (23 + b) (by omega)]
    exact this
  · rw [e1]
    intro q hq
    rw [s2 54 (by omega), s2 55 (by omega), s2 56 (by omega), s2 57 (by omega), s2 58 (by omega), s2 59 (by omega), s1 (39 + q) (by omega)]
    exact r6 q hq
  · rw [e1]
    intro i hi
    rw [s2 53 (by omega), e10]
    exact r7 i hi
set_option maxHeartbeats 2000000 in
set_option maxRecDepth 20000 in
theorem c_X8_in {d : Nat} {h : Hp} {v a b : Int} (hv : lrng v) (ha : lrng a) (hb : lrng b) : Fn d MX8_in [mL v, mL a, mL b] h (some (mI (b01 (a ≤ v ∧ v ≤ b)))) h := by
  intro Q hq X hX hR
  show VW X 0 [some (mL v), none, some (mL a), none, some (mL b), none] [] h
  refine v_lload_n hX eX8_in_0 rfl ?_
  refine v_lload_n hX eX8_in_1 rfl ?_
  refine v_lcmp hX eX8_in_2 hv ha ?_
  refine v_if_lt hX eX8_in_3 (tgt := 17) rfl (lcm_rng _ _) (fun c3 => ?_) (fun c3 => ?_)
  · refine v_iconst hX eX8_in_17 ?_
    exact v_zreturn hX hR eX8_in_18 rfl (by omega) (q_f (fun z => by have := lcm_lt.mp c3; omega) hq)
  · refine v_lload_n hX eX8_in_6 rfl ?_
    refine v_lload hX eX8_in_7 rfl ?_
    refine v_lcmp hX eX8_in_9 hv hb ?_
    refine v_if_gt hX eX8_in_10 (tgt := 17) rfl (lcm_rng _ _) (fun c10 => ?_) (fun c10 => ?_)
    · refine v_iconst hX eX8_in_17 ?_
      exact v_zreturn hX hR eX8_in_18 rfl (by omega) (q_f (fun z => by have := lcm_gt.mp c10; omega) hq)
    · refine v_iconst hX eX8_in_13 ?_
      refine v_goto hX eX8_in_14 (tgt := 18) rfl ?_
      exact v_zreturn hX hR eX8_in_18 rfl (by omega) (q_t (by have h1 : ¬ v < a := fun z => c3 (lcm_lt.mpr z); have h2 : ¬ b < v := fun z => c10 (lcm_gt.mpr z); omega) hq)
set_option maxHeartbeats 2000000 in
set_option maxRecDepth 20000 in
theorem c_X8_isPupil {d : Nat} {h : Hp} {p : Int} (hn : 0 ≤ h 44 1 ∧ h 44 1 ≤ 8) (hp : rng p) : Fn (d + 1) MX8_isPupil [mA 44, mI p] h (some (mI (b01 (0 ≤ p ∧ p < h 44 1)))) h := by
  intro Q hq X hX hR
  show VW X 0 [some (mA 44), some (mI p)] [] h
  refine v_iload_n hX eX8_isPupil_0 rfl ?_
  refine v_i2l hX eX8_isPupil_1 ⟨by omega, by omega⟩ ?_
  refine v_lconst (z := 0) hX eX8_isPupil_2 (by decide) ?_
  refine v_aload_n hX eX8_isPupil_3 rfl ?_
  refine v_getI hX eX8_isPupil_4 fi_X8_84 ⟨by decide, rfl⟩ ?_
  refine v_iconst hX eX8_isPupil_7 ?_
  refine v_isub hX eX8_isPupil_8 ?_
  refine v_i2l hX eX8_isPupil_9 ⟨by omega, by omega⟩ ?_
  refine v_fnS hX eX8_isPupil_10 lS_X8_87 ok_MX8_in ⟨rfl, Nat.le_of_ble_eq_true rfl⟩ (Nat.le_of_ble_eq_true rfl) (c_X8_in ⟨by omega, by omega⟩ ⟨by omega, by omega⟩ ⟨by omega, by omega⟩) rfl ?_
  try simp only [Int.toNat_natCast, Int.toNat_zero, Int.reduceToNat]
  exact v_zreturn hX hR eX8_isPupil_13 rfl (b01_or _) (q_i (b01_iff ⟨fun z => ⟨by have := z.1; omega, by have := z.2; omega⟩, fun z => ⟨by have := z.1; omega, by have := z.2; omega⟩⟩) hq)
set_option maxHeartbeats 2000000 in
set_option maxRecDepth 20000 in
theorem c_X8_isProject {d : Nat} {h : Hp} {p : Int} (hn : 0 ≤ h 44 11 ∧ h 44 11 ≤ 5) (hp : rng p) : Fn (d + 1) MX8_isProject [mA 44, mI p] h (some (mI (b01 (0 ≤ p ∧ p < h 44 11)))) h := by
  intro Q hq X hX hR
  show VW X 0 [some (mA 44), some (mI p)] [] h
  refine v_iload_n hX eX8_isProject_0 rfl ?_
  refine v_i2l hX eX8_isProject_1 ⟨by omega, by omega⟩ ?_
  refine v_lconst (z := 0) hX eX8_isProject_2 (by decide) ?_
  refine v_aload_n hX eX8_isProject_3 rfl ?_
  refine v_getI hX eX8_isProject_4 fi_X8_91 ⟨by decide, rfl⟩ ?_
  refine v_iconst hX eX8_isProject_7 ?_
  refine v_isub hX eX8_isProject_8 ?_
  refine v_i2l hX eX8_isProject_9 ⟨by omega, by omega⟩ ?_
  refine v_fnS hX eX8_isProject_10 lS_X8_87 ok_MX8_in ⟨rfl, Nat.le_of_ble_eq_true rfl⟩ (Nat.le_of_ble_eq_true rfl) (c_X8_in ⟨by omega, by omega⟩ ⟨by omega, by omega⟩ ⟨by omega, by omega⟩) rfl ?_
  try simp only [Int.toNat_natCast, Int.toNat_zero, Int.reduceToNat]
  exact v_zreturn hX hR eX8_isProject_13 rfl (b01_or _) (q_i (b01_iff ⟨fun z => ⟨by have := z.1; omega, by have := z.2; omega⟩, fun z => ⟨by have := z.1; omega, by have := z.2; omega⟩⟩) hq)
/-! a PUPIL's WISHES in the model: RANK -/
/-- what the model needs of a row of WISHES: a RANK for each number -/
def RK (h : Hp) (p : Nat) (rf : Int → Int) : Prop := (0 ≤ h 47 p ∧ h 47 p ≤ 5) ∧ (∀ k : Nat, k < (h 47 p).toNat → rng (h 48 (5 * p + k)) ∧ rf (h 48 (5 * p + k)) = (k : Int) + 1) ∧ ∀ j : Int, rf j ≠ 6 → ∃ k, k < (h 47 p).toNat ∧ h 48 (5 * p + k) = j
theorem WR.rk {c g : Hp} {p : Nat} (hm : c 1 4 ≤ 5) (w : WR c g p) : RK g p (rkI c p) := by
  obtain ⟨w1, w2, w3, w4⟩ := w
  refine ⟨w1, fun k hk => ?_, fun j hj => ?_⟩
  · obtain ⟨h1, h2⟩ := w2 k hk
    refine ⟨by omega, ?_⟩
    unfold rkI
    rw [if_pos (by omega)]
    exact h2
  · unfold rkI at hj
    split at hj
    · rename_i z
      obtain ⟨k, h1, h2⟩ := w3 j.toNat (by omega) hj
      exact ⟨k, h1, by rw [h2]; omega⟩
    · exact absurd rfl hj
theorem WL.rk {h : Hp} (hI : RI h) (r : WL h) {p : Nat} (hp : p < (h 1 3).toNat) : RK h p (rkI h p) := (r p hp).1.rk hI.q.2
set_option maxHeartbeats 2000000 in
set_option maxRecDepth 20000 in
theorem c_X8_rankOf {d : Nat} {h : Hp} {p : Nat} {j : Int} {rf : Int → Int} (hp : p < 8) (hk : RK h p rf) (hj : rng j) : Fn d MX8_rankOf [mA 44, mI p, mI j] h (some (mI (rf j))) h := by
  intro Q hq X hX hR
  obtain ⟨w1, w2, w3⟩ := hk
  have loop : ∀ (k i : Nat), i + k = (h 47 p).toNat → (∀ i', i' < i → h 48 (5 * p + i') ≠ j) → VW X 2 [some (mA 44), some (mI p), some (mI j), some (mI i)] [] h := by
    intro k
    induction k with
    | zero =>
      intro i hi hno
      have e6 : rf j = 6 := Classical.byContradiction (fun z => by
        obtain ⟨k, h1, h2⟩ := w3 j z
        exact hno k (by omega) h2)
      refine v_iload_n hX eX8_rankOf_2 rfl ?_
      refine v_aload_n hX eX8_rankOf_3 rfl ?_
      refine v_getA hX eX8_rankOf_4 fi_X8_17 ⟨by decide, rfl⟩ rfl ?_
      refine v_iload_n hX eX8_rankOf_7 rfl ?_
      refine v_iald hX eX8_rankOf_8 (by first | exact ⟨by decide, rfl⟩ | exact AR_rk (by omega)) ⟨by omega, by omega⟩ ?_
      try simp only [Int.toNat_natCast, Int.toNat_zero, Int.reduceToNat]
      refine v_icmp_ge hX eX8_rankOf_9 (tgt := 36) rfl ⟨by omega, by omega⟩ ⟨by omega, by omega⟩ (fun c9 => ?_) (fun c9 => False.elim ((by omega)))
      refine v_bipush hX eX8_rankOf_36 (by decide) ?_
      exact v_ireturn hX hR eX8_rankOf_38 rfl (q_i e6 hq)
    | succ k ih =>
      intro i hi hno
      obtain ⟨h1, h2⟩ := w2 i (by omega)
      have ei : ((5 : Int) * p + i).toNat = 5 * p + i := by omega
      refine v_iload_n hX eX8_rankOf_2 rfl ?_
      refine v_aload_n hX eX8_rankOf_3 rfl ?_
      refine v_getA hX eX8_rankOf_4 fi_X8_17 ⟨by decide, rfl⟩ rfl ?_
      refine v_iload_n hX eX8_rankOf_7 rfl ?_
      refine v_iald hX eX8_rankOf_8 (by first | exact ⟨by decide, rfl⟩ | exact AR_rk (by omega)) ⟨by omega, by omega⟩ ?_
      try simp only [Int.toNat_natCast, Int.toNat_zero, Int.reduceToNat]
      refine v_icmp_ge hX eX8_rankOf_9 (tgt := 36) rfl ⟨by omega, by omega⟩ ⟨by omega, by omega⟩ (fun c9 => False.elim ((by omega))) (fun c9 => ?_)
      refine v_aload_n hX eX8_rankOf_12 rfl ?_
      refine v_getA hX eX8_rankOf_13 fi_X8_20 ⟨by decide, rfl⟩ rfl ?_
      refine v_iconst hX eX8_rankOf_16 ?_
      refine v_iload_n hX eX8_rankOf_17 rfl ?_
      refine v_imul hX eX8_rankOf_18 ?_
      refine v_iload_n hX eX8_rankOf_19 rfl ?_
      refine v_iadd hX eX8_rankOf_20 ?_
      refine v_iald hX eX8_rankOf_21 (by first | exact ⟨by decide, rfl⟩ | exact AR_rk (by omega)) ⟨by omega, by omega⟩ ?_
      try simp only [Int.toNat_natCast, Int.toNat_zero, Int.reduceToNat]
      rw [ei]
      refine v_iload_n hX eX8_rankOf_22 rfl ?_
      refine v_icmp_ne hX eX8_rankOf_23 (tgt := 30) rfl ⟨by omega, by omega⟩ ⟨by omega, by omega⟩ (fun c23 => ?_) (fun c23 => ?_)
      · refine v_iinc hX eX8_rankOf_30 rfl rfl rfl ?_
        exact v_goto hX eX8_rankOf_33 (tgt := 2) rfl (ih (i + 1) (by omega) (fun i' hi' => if e : i' = i then (by subst e; exact c23) else hno i' (by omega)))
      · refine v_iload_n hX eX8_rankOf_26 rfl ?_
        refine v_iconst hX eX8_rankOf_27 ?_
        refine v_iadd hX eX8_rankOf_28 ?_
        exact v_ireturn hX hR eX8_rankOf_29 rfl (q_i (by rw [← c23]; exact h2) hq)
  show VW X 0 [some (mA 44), some (mI p), some (mI j), none] [] h
  refine v_iconst hX eX8_rankOf_0 ?_
  refine v_istore_n hX eX8_rankOf_1 rfl rfl ?_
  exact loop (h 47 p).toNat 0 (by omega) (fun i' hi' => absurd hi' (Nat.not_lt_zero _))
set_option maxHeartbeats 2000000 in
set_option maxRecDepth 20000 in
theorem c_X8_hasWish {d : Nat} {h : Hp} {p : Nat} {j : Int} {rf : Int → Int} (hp : p < 8) (hk : RK h p rf) (hj : rng j) : Fn d MX8_hasWish [mA 44, mI p, mI j] h (some (mI (b01 (rf j ≠ 6)))) h := by
  intro Q hq X hX hR
  obtain ⟨w1, w2, w3⟩ := hk
  have loop : ∀ (k i : Nat), i + k = (h 47 p).toNat → VW X 5 [some (mA 44), some (mI p), some (mI j), some (mI (b01 (∃ i', i' < i ∧ h 48 (5 * p + i') = j))), some (mI i)] [] h := by
    intro k
    induction k with
    | zero =>
      intro i hi
      have e : (∃ i', i' < i ∧ h 48 (5 * p + i') = j) ↔ rf j ≠ 6 := by
        constructor
        · rintro ⟨i', h1, h2⟩
          have := (w2 i' (by omega)).2
          rw [h2] at this
          rw [this]
          omega
        · intro z
          obtain ⟨k, h1, h2⟩ := w3 j z
          exact ⟨k, by omega, h2⟩
      refine v_iload hX eX8_hasWish_5 rfl ?_
      refine v_aload_n hX eX8_hasWish_7 rfl ?_
      refine v_getA hX eX8_hasWish_8 fi_X8_17 ⟨by decide, rfl⟩ rfl ?_
      refine v_iload_n hX eX8_hasWish_11 rfl ?_
      refine v_iald hX eX8_hasWish_12 (by first | exact ⟨by decide, rfl⟩ | exact AR_rk (by omega)) ⟨by omega, by omega⟩ ?_
      try simp only [Int.toNat_natCast, Int.toNat_zero, Int.reduceToNat]
      refine v_icmp_ge hX eX8_hasWish_13 (tgt := 47) rfl ⟨by omega, by omega⟩ ⟨by omega, by omega⟩ (fun c13 => ?_) (fun c13 => False.elim ((by omega)))
      refine v_iload_n hX eX8_hasWish_47 rfl ?_
      exact v_zreturn hX hR eX8_hasWish_48 rfl (b01_or _) (q_i (b01_iff e.symm) hq)
    | succ k ih =>
      intro i hi
      obtain ⟨h1, h2⟩ := w2 i (by omega)
      have ei : ((5 : Int) * p + i).toNat = 5 * p + i := by omega
      have ih2 := ih (i + 1) (by omega)
      have nx : ∀ P : Prop, (P ↔ ∃ i', i' < i + 1 ∧ h 48 (5 * p + i') = j) → VW X 40 [some (mA 44), some (mI p), some (mI j), some (mI (b01 (∃ i', i' < i ∧ h 48 (5 * p + i') = j))), some (mI i)] [mI (b01 P)] h := by
        intro P hP
        rw [b01_iff hP]
        refine v_istore_n hX eX8_hasWish_40 rfl rfl ?_
        refine v_iinc hX eX8_hasWish_41 rfl rfl rfl ?_
        exact v_goto hX eX8_hasWish_44 (tgt := 5) rfl ih2
      have t1 : (∃ i', i' < i + 1 ∧ h 48 (5 * p + i') = j) → VW X 40 [some (mA 44), some (mI p), some (mI j), some (mI (b01 (∃ i', i' < i ∧ h 48 (5 * p + i') = j))), some (mI i)] [mI 1] h := fun z => by
        have := nx True ⟨fun _ => z, fun _ => trivial⟩
        rw [b01_t trivial] at this
        exact this
      have t0 : ¬ (∃ i', i' < i + 1 ∧ h 48 (5 * p + i') = j) → VW X 40 [some (mA 44), some (mI p), some (mI j), some (mI (b01 (∃ i', i' < i ∧ h 48 (5 * p + i') = j))), some (mI i)] [mI 0] h := fun z => by
        have := nx False ⟨fun y => y.elim, fun y => z y⟩
        rw [b01_f (fun y => y)] at this
        exact this
      refine v_iload hX eX8_hasWish_5 rfl ?_
      refine v_aload_n hX eX8_hasWish_7 rfl ?_
      refine v_getA hX eX8_hasWish_8 fi_X8_17 ⟨by decide, rfl⟩ rfl ?_
      refine v_iload_n hX eX8_hasWish_11 rfl ?_
      refine v_iald hX eX8_hasWish_12 (by first | exact ⟨by decide, rfl⟩ | exact AR_rk (by omega)) ⟨by omega, by omega⟩ ?_
      try simp only [Int.toNat_natCast, Int.toNat_zero, Int.reduceToNat]
      refine v_icmp_ge hX eX8_hasWish_13 (tgt := 47) rfl ⟨by omega, by omega⟩ ⟨by omega, by omega⟩ (fun c13 => False.elim ((by omega))) (fun c13 => ?_)
      refine v_iload_n hX eX8_hasWish_16 rfl ?_
      refine v_ifB_ne hX eX8_hasWish_17 (tgt := 35) rfl (fun c17 => ?_) (fun c17 => ?_)
      · refine v_iconst hX eX8_hasWish_35 ?_
        refine v_goto hX eX8_hasWish_36 (tgt := 40) rfl ?_
        exact t1 (by obtain ⟨i', a, b⟩ := c17; exact ⟨i', by omega, b⟩)
      · refine v_aload_n hX eX8_hasWish_20 rfl ?_
        refine v_getA hX eX8_hasWish_21 fi_X8_20 ⟨by decide, rfl⟩ rfl ?_
        refine v_iconst hX eX8_hasWish_24 ?_
        refine v_iload_n hX eX8_hasWish_25 rfl ?_
        refine v_imul hX eX8_hasWish_26 ?_
        refine v_iload hX eX8_hasWish_27 rfl ?_
        refine v_iadd hX eX8_hasWish_29 ?_
        refine v_iald hX eX8_hasWish_30 (by first | exact ⟨by decide, rfl⟩ | exact AR_rk (by omega)) ⟨by omega, by omega⟩ ?_
        try simp only [Int.toNat_natCast, Int.toNat_zero, Int.reduceToNat]
        rw [ei]
        refine v_iload_n hX eX8_hasWish_31 rfl ?_
        refine v_icmp_ne hX eX8_hasWish_32 (tgt := 39) rfl ⟨by omega, by omega⟩ ⟨by omega, by omega⟩ (fun c32 => ?_) (fun c32 => ?_)
        · refine v_iconst hX eX8_hasWish_39 ?_
          exact t0 (by rintro ⟨i', a, b⟩; by_cases e : i' = i; (subst e; exact c32 b); exact c17 ⟨i', by omega, b⟩)
        · refine v_iconst hX eX8_hasWish_35 ?_
          refine v_goto hX eX8_hasWish_36 (tgt := 40) rfl ?_
          exact t1 ⟨i, by omega, c32⟩
  show VW X 0 [some (mA 44), some (mI p), some (mI j), none, none] [] h
  refine v_iconst hX eX8_hasWish_0 ?_
  refine v_istore_n hX eX8_hasWish_1 rfl rfl ?_
  refine v_iconst hX eX8_hasWish_2 ?_
  refine v_istore hX eX8_hasWish_3 rfl rfl ?_
  have l0 := loop (h 47 p).toNat 0 (by omega)
  rw [b01_f (fun z => by obtain ⟨i', a, _⟩ := z; omega)] at l0
  exact l0
theorem WR.congr {c g c' g' : Hp} {p : Nat} (w : WR c g p) (h1 : c' 1 4 = c 1 4) (h2 : c' (31 + p) = c (31 + p)) (h3 : c' (23 + p) 2 = c (23 + p) 2) (h4 : g' 47 p = g 47 p) (h5 : ∀ k, k < 5 → g' 48 (5 * p + k) = g 48 (5 * p + k)) : WR c' g' p := by
  obtain ⟨w1, w2, w3, w4⟩ := w
  refine ⟨by rw [h4]; exact w1, ?_, ?_, by rw [h4, h3]; exact w4⟩
  · rw [h4, h1, h2]
    intro k hk
    rw [h5 k (by omega)]
    exact w2 k hk
  · rw [h4, h2]
    intro j hj z
    obtain ⟨k, k1, k2⟩ := w3 j hj z
    exact ⟨k, k1, by rw [h5 k (by omega)]; exact k2⟩
def mAdd (h : Hp) (p : Nat) (j : Int) : Hp := up (up h 48 (5 * p + (h 47 p).toNat) j) 47 p (h 47 p + 1)
set_option maxHeartbeats 2000000 in
set_option maxRecDepth 20000 in
theorem c_X8_add {d : Nat} {h : Hp} {p : Nat} {j : Int} (hp : p < 8) (hw : 0 ≤ h 47 p ∧ h 47 p < 5) : Fn d MX8_add [mA 44, mI p, mI j] h none (mAdd h p j) := by
  intro Q hq X hX hR
  have ei : ((5 : Int) * p + h 47 p).toNat = 5 * p + (h 47 p).toNat := by omega
  show VW X 0 [some (mA 44), some (mI p), some (mI j)] [] h
  refine v_aload_n hX eX8_add_0 rfl ?_
  refine v_getA hX eX8_add_1 fi_X8_20 ⟨by decide, rfl⟩ rfl ?_
  refine v_iconst hX eX8_add_4 ?_
  refine v_iload_n hX eX8_add_5 rfl ?_
  refine v_imul hX eX8_add_6 ?_
  refine v_aload_n hX eX8_add_7 rfl ?_
  refine v_getA hX eX8_add_8 fi_X8_17 ⟨by decide, rfl⟩ rfl ?_
  refine v_iload_n hX eX8_add_11 rfl ?_
  refine v_iald hX eX8_add_12 (by first | exact ⟨by decide, rfl⟩ | exact AR_rk (by omega)) ⟨by omega, by omega⟩ ?_
  try simp only [Int.toNat_natCast, Int.toNat_zero, Int.reduceToNat]
  refine v_iadd hX eX8_add_13 ?_
  refine v_iload_n hX eX8_add_14 rfl ?_
  refine v_iast hX eX8_add_15 (by first | exact ⟨by decide, rfl⟩ | exact AR_rk (by omega)) ⟨by omega, by omega⟩ ?_
  try simp only [Int.toNat_natCast, Int.toNat_zero, Int.reduceToNat]
  rw [ei]
  refine v_aload_n hX eX8_add_16 rfl ?_
  refine v_getA hX eX8_add_17 fi_X8_17 ⟨by decide, rfl⟩ rfl ?_
  refine v_iload_n hX eX8_add_20 rfl ?_
  refine v_dup2 hX eX8_add_21 rfl rfl ?_
  refine v_iald hX eX8_add_22 (by first | exact ⟨by decide, rfl⟩ | exact AR_rk (by omega)) ⟨by omega, by omega⟩ ?_
  try simp only [Int.toNat_natCast, Int.toNat_zero, Int.reduceToNat]
  rw [up_ob (by decide)]
  refine v_iconst hX eX8_add_23 ?_
  refine v_iadd hX eX8_add_24 ?_
  refine v_iast hX eX8_add_25 (by first | exact ⟨by decide, rfl⟩ | exact AR_rk (by omega)) ⟨by omega, by omega⟩ ?_
  try simp only [Int.toNat_natCast, Int.toNat_zero, Int.reduceToNat]
  exact v_return hX hR eX8_add_26 rfl (hq)
set_option maxHeartbeats 2000000 in
set_option maxRecDepth 20000 in
theorem c_X8_present {d : Nat} {h : Hp} (hI : RI h) (r : RLr h) : Fn d MX8_present [mA 44] h (some (mI (cntF (prF h) (h 1 3).toNat : Nat))) h := by
  intro Q hq X hX hR
  have hn := hI.n
  have en := r.n
  have loop : ∀ i : Nat, i ≤ (h 1 3).toNat → VW X 4 [some (mA 44), some (mI (cntF (prF h) i : Nat)), some (mI i)] [] h := by
    refine loop_up _ ?_ ?_
    · refine v_iload_n hX eX8_present_4 rfl ?_
      refine v_aload_n hX eX8_present_5 rfl ?_
      refine v_getI hX eX8_present_6 fi_X8_84 ⟨by decide, rfl⟩ ?_
      refine v_icmp_ge hX eX8_present_9 (tgt := 35) rfl ⟨by omega, by omega⟩ ⟨by omega, by omega⟩ (fun c9 => ?_) (fun c9 => False.elim ((by omega)))
      refine v_iload_n hX eX8_present_35 rfl ?_
      exact v_ireturn hX hR eX8_present_36 rfl (hq)
    · intro i hi ih
      have hz := (hI.pu (p := i) (by omega)).2.2.2.2.2.1
      have e46 := (r.pu hi).2
      refine v_iload_n hX eX8_present_4 rfl ?_
      refine v_aload_n hX eX8_present_5 rfl ?_
      refine v_getI hX eX8_present_6 fi_X8_84 ⟨by decide, rfl⟩ ?_
      refine v_icmp_ge hX eX8_present_9 (tgt := 35) rfl ⟨by omega, by omega⟩ ⟨by omega, by omega⟩ (fun c9 => False.elim ((by omega))) (fun c9 => ?_)
      refine v_iload_n hX eX8_present_12 rfl ?_
      refine v_aload_n hX eX8_present_13 rfl ?_
      refine v_getA hX eX8_present_14 fi_X8_13 ⟨by decide, rfl⟩ rfl ?_
      refine v_iload_n hX eX8_present_17 rfl ?_
      refine v_zald hX eX8_present_18 (by first | exact ⟨by decide, rfl⟩ | exact AR_rk (by omega)) ⟨by omega, by omega⟩ ?_
      try simp only [Int.toNat_natCast, Int.toNat_zero, Int.reduceToNat]
      refine v_if_eq hX eX8_present_19 (tgt := 26) rfl ⟨by omega, by omega⟩ (fun c19 => ?_) (fun c19 => ?_)
      · refine v_iconst hX eX8_present_26 ?_
        rw [show cntF (prF h) (i + 1) = cntF (prF h) i from by rw [cntF, if_neg (by simp [prF]; omega), Nat.add_zero]] at ih
        refine v_iadd hX eX8_present_27 ?_
        rw [Int.add_zero]
        refine v_istore_n hX eX8_present_28 rfl rfl ?_
        refine v_iinc hX eX8_present_29 rfl rfl rfl ?_
        exact v_goto hX eX8_present_32 (tgt := 4) rfl ih
      · refine v_iconst hX eX8_present_22 ?_
        refine v_goto hX eX8_present_23 (tgt := 27) rfl ?_
        rw [show cntF (prF h) (i + 1) = cntF (prF h) i + 1 from by rw [cntF, if_pos (by simp [prF]; omega)]] at ih
        refine v_iadd hX eX8_present_27 ?_
        refine v_istore_n hX eX8_present_28 rfl rfl ?_
        refine v_iinc hX eX8_present_29 rfl rfl rfl ?_
        exact v_goto hX eX8_present_32 (tgt := 4) rfl ih
  show VW X 0 [some (mA 44), none, none] [] h
  refine v_iconst hX eX8_present_0 ?_
  refine v_istore_n hX eX8_present_1 rfl rfl ?_
  refine v_iconst hX eX8_present_2 ?_
  refine v_istore_n hX eX8_present_3 rfl rfl ?_
  exact loop 0 (by omega)
set_option maxHeartbeats 2000000 in
set_option maxRecDepth 20000 in
theorem c_X8_sizeOf {d : Nat} {h : Hp} {k n : Nat} {q : Int} {t : Nat → Int} (hk : AR k 0 8) (hn : n ≤ 8) (ht : ∀ p, p < n → h k p = t p ∧ rng (t p)) (hr : rng q) : Fn d MX8_sizeOf [mA k, mI q, mI n] h (some (mI (cntF (fun p => decide (t p = q)) n : Nat))) h := by
  intro Q hq X hX hR
  have loop : ∀ i : Nat, i ≤ n → VW X 5 [some (mA k), some (mI q), some (mI n), some (mI (cntF (fun p => decide (t p = q)) i : Nat)), some (mI i)] [] h := by
    refine loop_up _ ?_ ?_
    · refine v_iload hX eX8_sizeOf_5 rfl ?_
      refine v_iload_n hX eX8_sizeOf_7 rfl ?_
      refine v_icmp_ge hX eX8_sizeOf_8 (tgt := 33) rfl ⟨by omega, by omega⟩ ⟨by omega, by omega⟩ (fun c8 => ?_) (fun c8 => False.elim ((by omega)))
      refine v_iload_n hX eX8_sizeOf_33 rfl ?_
      exact v_ireturn hX hR eX8_sizeOf_34 rfl (hq)
    · intro i hi ih
      obtain ⟨e, er⟩ := ht i hi
      refine v_iload hX eX8_sizeOf_5 rfl ?_
      refine v_iload_n hX eX8_sizeOf_7 rfl ?_
      refine v_icmp_ge hX eX8_sizeOf_8 (tgt := 33) rfl ⟨by omega, by omega⟩ ⟨by omega, by omega⟩ (fun c => False.elim (by omega)) (fun _ => ?_)
      refine v_iload_n hX eX8_sizeOf_11 rfl ?_
      refine v_aload_n hX eX8_sizeOf_12 rfl ?_
      refine v_iload hX eX8_sizeOf_13 rfl ?_
      refine v_iald hX eX8_sizeOf_15 hk ⟨by omega, by omega⟩ ?_
      rw [Int.toNat_natCast, e]
      refine v_iload_n hX eX8_sizeOf_16 rfl ?_
      refine v_icmp_ne hX eX8_sizeOf_17 (tgt := 24) rfl ⟨by omega, by omega⟩ ⟨by omega, by omega⟩ (fun c17 => ?_) (fun c17 => ?_)
      · refine v_iconst hX eX8_sizeOf_24 ?_
        rw [cntF, if_neg (by simpa using c17), Nat.add_zero] at ih
        refine v_iadd hX eX8_sizeOf_25 ?_
        rw [Int.add_zero]
        refine v_istore_n hX eX8_sizeOf_26 rfl rfl ?_
        refine v_iinc hX eX8_sizeOf_27 rfl rfl rfl ?_
        exact v_goto hX eX8_sizeOf_30 (tgt := 5) rfl ih
      · refine v_iconst hX eX8_sizeOf_20 ?_
        refine v_goto hX eX8_sizeOf_21 (tgt := 25) rfl ?_
        rw [cntF, if_pos (by simpa using c17)] at ih
        refine v_iadd hX eX8_sizeOf_25 ?_
        refine v_istore_n hX eX8_sizeOf_26 rfl rfl ?_
        refine v_iinc hX eX8_sizeOf_27 rfl rfl rfl ?_
        exact v_goto hX eX8_sizeOf_30 (tgt := 5) rfl ih
  show VW X 0 [some (mA k), some (mI q), some (mI n), none, none] [] h
  refine v_iconst hX eX8_sizeOf_0 ?_
  refine v_istore_n hX eX8_sizeOf_1 rfl rfl ?_
  refine v_iconst hX eX8_sizeOf_2 ?_
  refine v_istore hX eX8_sizeOf_3 rfl rfl ?_
  exact loop 0 (by omega)
