/-! the roll: bounds of what its objects hold -/
def PUOK (h : Hp) (p : Nat) : Prop := (0 ≤ h (23 + p) 1 ∧ h (23 + p) 1 ≤ 255) ∧ (0 ≤ h (23 + p) 2 ∧ h (23 + p) 2 ≤ 5) ∧ (0 ≤ h (23 + p) 3 ∧ h (23 + p) 3 ≤ 300) ∧ (0 ≤ h (23 + p) 4 ∧ h (23 + p) 4 ≤ 255) ∧ (0 ≤ h (23 + p) 5 ∧ h (23 + p) 5 ≤ 255) ∧ (h (23 + p) 6 = 0 ∨ h (23 + p) 6 = 1) ∧ ∀ j, j < 5 → 1 ≤ h (31 + p) j ∧ h (31 + p) j ≤ 6
def PROK (h : Hp) (q : Nat) : Prop := (0 ≤ h (39 + q) 0 ∧ h (39 + q) 0 ≤ 3) ∧ (0 ≤ h (39 + q) 1 ∧ h (39 + q) 1 ≤ 8) ∧ (0 ≤ h (39 + q) 2 ∧ h (39 + q) 2 ≤ 8) ∧ (0 ≤ h (39 + q) 3 ∧ h (39 + q) 3 ≤ 255) ∧ rng (h (39 + q) 4) ∧ (h (39 + q) 5 = 0 ∨ h (39 + q) 5 = 1) ∧ (h (39 + q) 0 = 3 → 0 ≤ h (39 + q) 4 ∧ h (39 + q) 4 < 8)
def RI (h : Hp) : Prop := (0 ≤ h 1 3 ∧ h 1 3 ≤ 8) ∧ (0 ≤ h 1 4 ∧ h 1 4 ≤ 5) ∧ (∀ p, p < 8 → PUOK h p) ∧ (∀ q, q < 5 → PROK h q) ∧ ∀ i, i < 8 → rng (h 10 i)
theorem RI.n {h : Hp} (a : RI h) : 0 ≤ h 1 3 ∧ h 1 3 ≤ 8 := a.1
theorem RI.q {h : Hp} (a : RI h) : 0 ≤ h 1 4 ∧ h 1 4 ≤ 5 := a.2.1
theorem RI.pu {h : Hp} (a : RI h) {p : Nat} (hp : p < 8) : PUOK h p := a.2.2.1 p hp
theorem RI.pr {h : Hp} (a : RI h) {p : Nat} (hp : p < 5) : PROK h p := a.2.2.2.1 p hp
theorem RI.ord {h : Hp} (a : RI h) {i : Nat} (hi : i < 8) : rng (h 10 i) := a.2.2.2.2 i hi
/-- what is no part of the roll may change -/
theorem RI.congr {h g : Hp} (a : RI h) (e : ∀ k, k = 1 ∨ k = 10 ∨ (23 ≤ k ∧ k < 44) → g k = h k) : RI g := by
  obtain ⟨a1, a2, a3, a4, a5⟩ := a
  refine ⟨by rw [e 1 (by omega)]; exact a1, by rw [e 1 (by omega)]; exact a2, fun p hp => ?_, fun q hq => ?_, by rw [e 10 (by omega)]; exact a5⟩
  · have := a3 p hp
    unfold PUOK at this ⊢
    rw [e (23 + p) (by omega), e (31 + p) (by omega)]
    exact this
  · have := a4 q hq
    unfold PROK at this ⊢
    rw [e (39 + q) (by omega)]
    exact this
theorem RI.up {h : Hp} (a : RI h) {k j : Nat} {v : Int} (hk : ¬ (k = 1 ∨ k = 10 ∨ (23 ≤ k ∧ k < 44))) : RI (up h k j v) := a.congr (fun b hb => up_obf (fun q => hk (q ▸ hb)))
def inN (h : Hp) (p : Int) : Prop := 0 ≤ p ∧ p < h 1 3
def inQ (h : Hp) (p : Int) : Prop := 0 ≤ p ∧ p < h 1 4
set_option maxHeartbeats 2000000 in
set_option maxRecDepth 20000 in
theorem c_X4_isPupil {d : Nat} {h : Hp} {p : Int} (hI : RI h) (hp : rng p) : Fn d MX4_isPupil [mA 1, mI p] h (some (mI (b01 (inN h p)))) h := by
  intro Q hq X hX hR
  have hn := hI.n
  show VW X 0 [some (mA 1), some (mI p)] [] h
  refine v_iload_n hX eX4_isPupil_0 rfl ?_
  refine v_if_lt hX eX4_isPupil_1 (tgt := 16) rfl ⟨by omega, by omega⟩ (fun c1 => ?_) (fun c1 => ?_)
  · refine v_iconst hX eX4_isPupil_16 ?_
    exact v_zreturn hX hR eX4_isPupil_17 rfl (by omega) (q_f (fun q => by have := q.1; have := q.2; omega) hq)
  · refine v_iload_n hX eX4_isPupil_4 rfl ?_
    refine v_aload_n hX eX4_isPupil_5 rfl ?_
    refine v_getI hX eX4_isPupil_6 fi_X4_29 ⟨by decide, rfl⟩ ?_
    refine v_icmp_ge hX eX4_isPupil_9 (tgt := 16) rfl ⟨by omega, by omega⟩ ⟨by omega, by omega⟩ (fun c9 => ?_) (fun c9 => ?_)
    · refine v_iconst hX eX4_isPupil_16 ?_
      exact v_zreturn hX hR eX4_isPupil_17 rfl (by omega) (q_f (fun q => by have := q.1; have := q.2; omega) hq)
    · refine v_iconst hX eX4_isPupil_12 ?_
      refine v_goto hX eX4_isPupil_13 (tgt := 17) rfl ?_
      exact v_zreturn hX hR eX4_isPupil_17 rfl (by omega) (q_t ⟨by omega, by omega⟩ hq)
set_option maxHeartbeats 2000000 in
set_option maxRecDepth 20000 in
theorem c_X4_isProject {d : Nat} {h : Hp} {p : Int} (hI : RI h) (hp : rng p) : Fn d MX4_isProject [mA 1, mI p] h (some (mI (b01 (inQ h p)))) h := by
  intro Q hq X hX hR
  have hn := hI.q
  show VW X 0 [some (mA 1), some (mI p)] [] h
  refine v_iload_n hX eX4_isProject_0 rfl ?_
  refine v_if_lt hX eX4_isProject_1 (tgt := 16) rfl ⟨by omega, by omega⟩ (fun c1 => ?_) (fun c1 => ?_)
  · refine v_iconst hX eX4_isProject_16 ?_
    exact v_zreturn hX hR eX4_isProject_17 rfl (by omega) (q_f (fun q => by have := q.1; have := q.2; omega) hq)
  · refine v_iload_n hX eX4_isProject_4 rfl ?_
    refine v_aload_n hX eX4_isProject_5 rfl ?_
    refine v_getI hX eX4_isProject_6 fi_X4_36 ⟨by decide, rfl⟩ ?_
    refine v_icmp_ge hX eX4_isProject_9 (tgt := 16) rfl ⟨by omega, by omega⟩ ⟨by omega, by omega⟩ (fun c9 => ?_) (fun c9 => ?_)
    · refine v_iconst hX eX4_isProject_16 ?_
      exact v_zreturn hX hR eX4_isProject_17 rfl (by omega) (q_f (fun q => by have := q.1; have := q.2; omega) hq)
    · refine v_iconst hX eX4_isProject_12 ?_
      refine v_goto hX eX4_isProject_13 (tgt := 17) rfl ?_
      exact v_zreturn hX hR eX4_isProject_17 rfl (by omega) (q_t ⟨by omega, by omega⟩ hq)
set_option maxHeartbeats 2000000 in
set_option maxRecDepth 20000 in
theorem c_X4_pupilOf {d : Nat} {h : Hp} {p : Int} (hI : RI h) (hp : inN h p) : Fn (d + 1) MX4_pupilOf [mA 1, mI p] h (some (mA (23 + p.toNat))) h := by
  intro Q hq X hX hR
  have hn := hI.n
  have h1 := hp.1
  have h2 := hp.2
  show VW X 0 [some (mA 1), some (mI p)] [] h
  refine v_aload_n hX eX4_pupilOf_0 rfl ?_
  refine v_iload_n hX eX4_pupilOf_1 rfl ?_
  refine v_fnV hX eX4_pupilOf_2 lV_X4_52 ok_MX4_isPupil ⟨by decide, rfl⟩ rfl ⟨rfl, Nat.le_of_ble_eq_true rfl⟩ (Nat.le_of_ble_eq_true rfl) (c_X4_isPupil hI ⟨by omega, by omega⟩) rfl ?_
  try simp only [Int.toNat_natCast, Int.toNat_zero, Int.reduceToNat]
  refine v_ifB_eq hX eX4_pupilOf_5 (tgt := 17) rfl (fun c5 => False.elim (c5 hp)) (fun c5 => ?_)
  refine v_aload_n hX eX4_pupilOf_8 rfl ?_
  refine v_getA hX eX4_pupilOf_9 fi_X4_11 ⟨by decide, rfl⟩ rfl ?_
  refine v_iload_n hX eX4_pupilOf_12 rfl ?_
  refine v_aaldP hX eX4_pupilOf_13 ⟨by decide, rfl⟩ ⟨by omega, by omega⟩ (RF_pu ⟨by omega, by omega⟩) ?_
  try simp only [Int.toNat_natCast, Int.toNat_zero, Int.reduceToNat]
  refine v_goto hX eX4_pupilOf_14 (tgt := 18) rfl ?_
  exact v_areturn hX hR eX4_pupilOf_18 rfl (hq)
set_option maxHeartbeats 2000000 in
set_option maxRecDepth 20000 in
theorem c_X4_pupilOf_N {d : Nat} {h : Hp} {p : Int} (hI : RI h) (hr : rng p) (hp : ¬ inN h p) : Fn (d + 1) MX4_pupilOf [mA 1, mI p] h (some mN) h := by
  intro Q hq X hX hR
  have hn := hI.n
  show VW X 0 [some (mA 1), some (mI p)] [] h
  refine v_aload_n hX eX4_pupilOf_0 rfl ?_
  refine v_iload_n hX eX4_pupilOf_1 rfl ?_
  refine v_fnV hX eX4_pupilOf_2 lV_X4_52 ok_MX4_isPupil ⟨by decide, rfl⟩ rfl ⟨rfl, Nat.le_of_ble_eq_true rfl⟩ (Nat.le_of_ble_eq_true rfl) (c_X4_isPupil hI hr) rfl ?_
  try simp only [Int.toNat_natCast, Int.toNat_zero, Int.reduceToNat]
  refine v_ifB_eq hX eX4_pupilOf_5 (tgt := 17) rfl (fun c5 => ?_) (fun c5 => False.elim (hp c5))
  refine v_null hX eX4_pupilOf_17 ?_
  exact v_areturnN hX hR eX4_pupilOf_18 rfl (hq)
set_option maxHeartbeats 2000000 in
set_option maxRecDepth 20000 in
theorem c_X4_projectOf {d : Nat} {h : Hp} {p : Int} (hI : RI h) (hp : inQ h p) : Fn (d + 1) MX4_projectOf [mA 1, mI p] h (some (mA (39 + p.toNat))) h := by
  intro Q hq X hX hR
  have hn := hI.q
  have h1 := hp.1
  have h2 := hp.2
  show VW X 0 [some (mA 1), some (mI p)] [] h
  refine v_aload_n hX eX4_projectOf_0 rfl ?_
  refine v_iload_n hX eX4_projectOf_1 rfl ?_
  refine v_fnV hX eX4_projectOf_2 lV_X4_56 ok_MX4_isProject ⟨by decide, rfl⟩ rfl ⟨rfl, Nat.le_of_ble_eq_true rfl⟩ (Nat.le_of_ble_eq_true rfl) (c_X4_isProject hI ⟨by omega, by omega⟩) rfl ?_
  try simp only [Int.toNat_natCast, Int.toNat_zero, Int.reduceToNat]
  refine v_ifB_eq hX eX4_projectOf_5 (tgt := 17) rfl (fun c5 => False.elim (c5 hp)) (fun c5 => ?_)
  refine v_aload_n hX eX4_projectOf_8 rfl ?_
  refine v_getA hX eX4_projectOf_9 fi_X4_19 ⟨by decide, rfl⟩ rfl ?_
  refine v_iload_n hX eX4_projectOf_12 rfl ?_
  refine v_aaldQ hX eX4_projectOf_13 ⟨by decide, rfl⟩ ⟨by omega, by omega⟩ (RF_pr ⟨by omega, by omega⟩) ?_
  try simp only [Int.toNat_natCast, Int.toNat_zero, Int.reduceToNat]
  refine v_goto hX eX4_projectOf_14 (tgt := 18) rfl ?_
  exact v_areturn hX hR eX4_projectOf_18 rfl (hq)
set_option maxHeartbeats 2000000 in
set_option maxRecDepth 20000 in
theorem c_X4_projectOf_N {d : Nat} {h : Hp} {p : Int} (hI : RI h) (hr : rng p) (hp : ¬ inQ h p) : Fn (d + 1) MX4_projectOf [mA 1, mI p] h (some mN) h := by
  intro Q hq X hX hR
  show VW X 0 [some (mA 1), some (mI p)] [] h
  refine v_aload_n hX eX4_projectOf_0 rfl ?_
  refine v_iload_n hX eX4_projectOf_1 rfl ?_
  refine v_fnV hX eX4_projectOf_2 lV_X4_56 ok_MX4_isProject ⟨by decide, rfl⟩ rfl ⟨rfl, Nat.le_of_ble_eq_true rfl⟩ (Nat.le_of_ble_eq_true rfl) (c_X4_isProject hI hr) rfl ?_
  try simp only [Int.toNat_natCast, Int.toNat_zero, Int.reduceToNat]
  refine v_ifB_eq hX eX4_projectOf_5 (tgt := 17) rfl (fun c5 => ?_) (fun c5 => False.elim (hp c5))
  refine v_null hX eX4_projectOf_17 ?_
  exact v_areturnN hX hR eX4_projectOf_18 rfl (hq)
/-- the first place i below n where f holds p, or -1 -/
def findP (f : Nat → Int) (p : Int) : Nat → Nat → Int
  | 0, _ => -1
  | n + 1, i => if f i = p then i else findP f p n (i + 1)
set_option maxHeartbeats 2000000 in
set_option maxRecDepth 20000 in
theorem c_X4_placeOf {d : Nat} {h : Hp} {p : Int} (hI : RI h) (hr : rng p) : Fn d MX4_placeOf [mA 1, mI p] h (some (mI (findP (h 10) p (h 1 3).toNat 0))) h := by
  intro Q hq X hX hR
  have hn := hI.n
  show VW X 0 [some (mA 1), some (mI p), none] [] h
  have loop : ∀ (k i : Nat), i + k = (h 1 3).toNat → Q (some (mI (findP (h 10) p k i))) h → VW X 2 [some (mA 1), some (mI p), some (mI i)] [] h := by
    intro k
    induction k with
    | zero =>
      intro i hi hq
      refine v_iload_n hX eX4_placeOf_2 rfl ?_
      refine v_aload_n hX eX4_placeOf_3 rfl ?_
      refine v_getI hX eX4_placeOf_4 fi_X4_29 ⟨by decide, rfl⟩ ?_
      refine v_icmp_ge hX eX4_placeOf_7 (tgt := 28) rfl ⟨by omega, by omega⟩ ⟨by omega, by omega⟩ (fun c7 => ?_) (fun c7 => False.elim ((by omega)))
      refine v_iconst hX eX4_placeOf_28 ?_
      exact v_ireturn hX hR eX4_placeOf_29 rfl (hq)
    | succ k ih =>
      intro i hi hq
      have ho := hI.ord (i := i) (by omega)
      refine v_iload_n hX eX4_placeOf_2 rfl ?_
      refine v_aload_n hX eX4_placeOf_3 rfl ?_
      refine v_getI hX eX4_placeOf_4 fi_X4_29 ⟨by decide, rfl⟩ ?_
      refine v_icmp_ge hX eX4_placeOf_7 (tgt := 28) rfl ⟨by omega, by omega⟩ ⟨by omega, by omega⟩ (fun c7 => False.elim ((by omega))) (fun c7 => ?_)
      unfold findP at hq
      refine v_aload_n hX eX4_placeOf_10 rfl ?_
      refine v_getA hX eX4_placeOf_11 fi_X4_23 ⟨by decide, rfl⟩ rfl ?_
      refine v_iload_n hX eX4_placeOf_14 rfl ?_
      refine v_iald hX eX4_placeOf_15 (by first | exact ⟨by decide, rfl⟩ | exact AR_rk (by omega)) ⟨by omega, by omega⟩ ?_
      try simp only [Int.toNat_natCast, Int.toNat_zero, Int.reduceToNat]
      refine v_iload_n hX eX4_placeOf_16 rfl ?_
      refine v_icmp_ne hX eX4_placeOf_17 (tgt := 22) rfl ⟨by omega, by omega⟩ ⟨by omega, by omega⟩ (fun c17 => ?_) (fun c17 => ?_)
      · rw [if_neg c17] at hq
        refine v_iinc hX eX4_placeOf_22 rfl rfl rfl ?_
        refine v_goto hX eX4_placeOf_25 (tgt := 2) rfl ?_
        exact ih (i + 1) (by omega) hq
      · refine v_iload_n hX eX4_placeOf_20 rfl ?_
        exact v_ireturn hX hR eX4_placeOf_21 rfl (by rw [if_pos c17] at hq; exact hq)
  refine v_iconst hX eX4_placeOf_0 ?_
  refine v_istore_n hX eX4_placeOf_1 rfl rfl ?_
  exact loop _ 0 (by omega) hq
