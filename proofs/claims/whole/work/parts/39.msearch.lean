/-! the model's search: how it weighs a PLAN -/
def SP : Type := Nat × (Nat → Bool) × (Nat → Int → Int) × (Nat → Int) × (Nat → Nat → Bool) × (Nat → Nat)
def SP.n (P : SP) : Nat := P.1
def SP.pr (P : SP) : Nat → Bool := P.2.1
def SP.rk (P : SP) : Nat → Int → Int := P.2.2.1
def SP.sc (P : SP) : Nat → Int := P.2.2.2.1
def SP.fr (P : SP) : Nat → Nat → Bool := P.2.2.2.2.1
def SP.od (P : SP) : Nat → Nat := P.2.2.2.2.2
def PV (P : SP) (h : Hp) : Prop := h 44 1 = P.n ∧ P.n ≤ 8 ∧ (∀ p, p < P.n → h 46 p = if P.pr p = true then 1 else 0) ∧ (∀ p, p < P.n → RK h p (P.rk p)) ∧ (∀ p j, 1 ≤ P.rk p j ∧ P.rk p j ≤ 6) ∧ (∀ p j, j < 0 → P.rk p j = 6) ∧ (∀ p, p < P.n → h 49 p = P.sc p ∧ 0 ≤ P.sc p ∧ P.sc p ≤ 300) ∧ (∀ a b : Nat, a < P.n → b < P.n → h 51 (8 * a + b) = if P.fr a b = true then 1 else 0) ∧ ∀ i, i < P.n → h 53 i = P.od i ∧ P.od i < P.n
theorem PV.congr {P : SP} {h x : Hp} (v : PV P h) (h1 : x 44 1 = h 44 1) (h2 : ∀ k, k = 46 ∨ k = 47 ∨ k = 48 ∨ k = 49 ∨ k = 51 ∨ k = 53 → x k = h k) : PV P x := by
  unfold PV RK at v ⊢
  rw [h1, h2 46 (by omega), h2 47 (by omega), h2 48 (by omega), h2 49 (by omega), h2 51 (by omega), h2 53 (by omega)]
  exact v
def nin (r : Int) : Int := if r < 2 then 0 else ((9 ^ (r - 2).toNat : Nat) : Int)
def wF (P : SP) (t : Nat → Int) (p : Nat) : Int := if P.pr p = true then nin (P.rk p (t p)) else 0
def gF (P : SP) (t : Nat → Int) (p : Nat) : Int := if P.pr p = true then P.rk p (t p) * (P.sc p + 1) else 0
def pF (P : SP) (t : Nat → Int) (a b : Nat) : Bool := decide (a < b) && (P.pr a && (P.pr b && (P.fr a b && (decide (0 ≤ t a) && decide (t a = t b)))))
theorem pF_iff {P : SP} {t : Nat → Int} {a b : Nat} : pF P t a b = true ↔ a < b ∧ P.pr a = true ∧ P.pr b = true ∧ P.fr a b = true ∧ 0 ≤ t a ∧ t a = t b := by simp [pF]
set_option maxHeartbeats 2000000 in
set_option maxRecDepth 20000 in
theorem c_X8_nines {d : Nat} {h : Hp} {r : Int} (hr : 0 ≤ r ∧ r ≤ 6) : Fn d MX8_nines [mI r] h (some (mI (nin r))) h := by
  intro Q hq X hX hR
  by_cases h2 : r < 2
  · show VW X 0 [some (mI r), none, none] [] h
    unfold nin at hq
    rw [if_pos h2] at hq
    refine v_iconst hX eX8_nines_0 ?_
    refine v_istore_n hX eX8_nines_1 rfl rfl ?_
    refine v_iconst hX eX8_nines_2 ?_
    refine v_istore_n hX eX8_nines_3 rfl rfl ?_
    refine v_iload_n hX eX8_nines_4 rfl ?_
    refine v_iload_n hX eX8_nines_5 rfl ?_
    refine v_icmp_ge hX eX8_nines_6 (tgt := 20) rfl ⟨by omega, by omega⟩ ⟨by omega, by omega⟩ (fun c6 => ?_) (fun c6 => False.elim ((by omega)))
    refine v_iload_n hX eX8_nines_20 rfl ?_
    refine v_iconst hX eX8_nines_21 ?_
    refine v_icmp_ge hX eX8_nines_22 (tgt := 29) rfl ⟨by omega, by omega⟩ ⟨by omega, by omega⟩ (fun c22 => False.elim ((by omega))) (fun c22 => ?_)
    refine v_iconst hX eX8_nines_25 ?_
    refine v_goto hX eX8_nines_26 (tgt := 30) rfl ?_
    exact v_ireturn hX hR eX8_nines_30 rfl (hq)
  · unfold nin at hq
    rw [if_neg h2] at hq
    have loop : ∀ (m k : Nat), (k : Int) + m = r - 2 → VW X 4 [some (mI r), some (mI (9 ^ k : Nat)), some (mI ((k : Int) + 2))] [] h := by
      intro m
      induction m with
      | zero =>
        intro k hk
        rw [show (r - 2).toNat = k by omega] at hq
        refine v_iload_n hX eX8_nines_4 rfl ?_
        refine v_iload_n hX eX8_nines_5 rfl ?_
        refine v_icmp_ge hX eX8_nines_6 (tgt := 20) rfl ⟨by omega, by omega⟩ ⟨by omega, by omega⟩ (fun c6 => ?_) (fun c6 => False.elim ((by omega)))
        refine v_iload_n hX eX8_nines_20 rfl ?_
        refine v_iconst hX eX8_nines_21 ?_
        refine v_icmp_ge hX eX8_nines_22 (tgt := 29) rfl ⟨by omega, by omega⟩ ⟨by omega, by omega⟩ (fun c22 => ?_) (fun c22 => False.elim ((by omega)))
        refine v_iload_n hX eX8_nines_29 rfl ?_
        exact v_ireturn hX hR eX8_nines_30 rfl (hq)
      | succ m ih =>
        intro k hk
        have nx := ih (k + 1) (by omega)
        rw [Nat.pow_succ, Int.natCast_mul, Int.natCast_add, show (((1 : Nat) : Int)) = 1 from rfl, show (((9 : Nat) : Int)) = 9 from rfl, show (k : Int) + 1 + 2 = (k : Int) + 2 + 1 by omega] at nx
        refine v_iload_n hX eX8_nines_4 rfl ?_
        refine v_iload_n hX eX8_nines_5 rfl ?_
        refine v_icmp_ge hX eX8_nines_6 (tgt := 20) rfl ⟨by omega, by omega⟩ ⟨by omega, by omega⟩ (fun c6 => False.elim ((by omega))) (fun c6 => ?_)
        refine v_iload_n hX eX8_nines_9 rfl ?_
        refine v_bipush hX eX8_nines_10 (by decide) ?_
        refine v_imul hX eX8_nines_12 ?_
        refine v_istore_n hX eX8_nines_13 rfl rfl ?_
        refine v_iinc hX eX8_nines_14 rfl rfl rfl ?_
        refine v_goto hX eX8_nines_17 (tgt := 4) rfl ?_
        exact nx
    show VW X 0 [some (mI r), none, none] [] h
    refine v_iconst hX eX8_nines_0 ?_
    refine v_istore_n hX eX8_nines_1 rfl rfl ?_
    refine v_iconst hX eX8_nines_2 ?_
    refine v_istore_n hX eX8_nines_3 rfl rfl ?_
    exact loop (r - 2).toNat 0 (by omega)
set_option maxHeartbeats 2000000 in
set_option maxRecDepth 20000 in
theorem c_X8_rankBy {d : Nat} {h : Hp} {P : SP} {p : Nat} {j : Int} (v : PV P h) (hp : p < P.n) (hj : rng j) : Fn (d + 1) MX8_rankBy [mA 44, mI p, mI j] h (some (mI (P.rk p j))) h := by
  intro Q hq X hX hR
  obtain ⟨v1, v2, v3, v4, v5, v6, v7, v8, v9⟩ := v
  by_cases h0 : j < 0
  · rw [v6 p j h0] at hq
    show VW X 0 [some (mA 44), some (mI p), some (mI j)] [] h
    refine v_iload_n hX eX8_rankBy_0 rfl ?_
    refine v_if_ge hX eX8_rankBy_1 (tgt := 9) rfl ⟨by omega, by omega⟩ (fun c1 => False.elim ((by omega))) (fun c1 => ?_)
    refine v_bipush hX eX8_rankBy_4 (by decide) ?_
    refine v_goto hX eX8_rankBy_6 (tgt := 15) rfl ?_
    exact v_ireturn hX hR eX8_rankBy_15 rfl (hq)
  · show VW X 0 [some (mA 44), some (mI p), some (mI j)] [] h
    refine v_iload_n hX eX8_rankBy_0 rfl ?_
    refine v_if_ge hX eX8_rankBy_1 (tgt := 9) rfl ⟨by omega, by omega⟩ (fun c1 => ?_) (fun c1 => False.elim ((by omega)))
    refine v_aload_n hX eX8_rankBy_9 rfl ?_
    refine v_iload_n hX eX8_rankBy_10 rfl ?_
    refine v_iload_n hX eX8_rankBy_11 rfl ?_
    refine v_fnV hX eX8_rankBy_12 lV_X8_136 ok_MX8_rankOf ⟨by decide, rfl⟩ rfl ⟨rfl, Nat.le_of_ble_eq_true rfl⟩ (Nat.le_of_ble_eq_true rfl) (c_X8_rankOf (by omega) (v4 p hp) hj) rfl ?_
    try simp only [Int.toNat_natCast, Int.toNat_zero, Int.reduceToNat]
    exact v_ireturn hX hR eX8_rankBy_15 rfl (hq)
def WGx (P : SP) (h : Hp) (t : Nat → Int) (a b c : Int) (x : Hp) : Prop := (∀ k j, ¬ (k = 44 ∧ (j = 18 ∨ j = 19 ∨ j = 20)) → x k j = h k j) ∧ x 44 18 = a ∧ x 44 19 = b ∧ x 44 20 = c
theorem WGx.pv {P : SP} {h : Hp} {t : Nat → Int} {a b c : Int} {x : Hp} (w : WGx P h t a b c x) (v : PV P h) : PV P x := v.congr (w.1 44 1 (by omega)) (fun k hk => funext fun j => w.1 k j (by omega))
def TV (k : Nat) (t : Nat → Int) (n : Nat) (h : Hp) : Prop := ∀ p, p < n → h k p = t p ∧ -1 ≤ t p ∧ t p < 5
def mW (P : SP) (t : Nat → Int) : Int := sumN (wF P t) P.n
def mG (P : SP) (t : Nat → Int) : Int := sumN (gF P t) P.n
def mP (P : SP) (t : Nat → Int) : Int := sumN (fun a => (cntF (pF P t a) P.n : Nat)) P.n
set_option maxHeartbeats 2000000 in
set_option maxRecDepth 20000 in
theorem c_X8_weigh {d : Nat} {h : Hp} {P : SP} {k : Nat} {t : Nat → Int} (v : PV P h) (hk : AR k 0 8) (hk44 : k ≠ 44) (ht : TV k t P.n h) : Fr (d + 2) MX8_weigh [mA 44, mA k] h (fun r x => r = none ∧ WGx P h t (mW P t) (mG P t) (mP P t) x) := by
  intro Q hq X hX hR
  obtain ⟨v1, v2, v3, v4, v5, v6, v7, v8, v9⟩ := id v
  have loop : ∀ i : Nat, i ≤ P.n → ∀ x l3 l4, WGx P h t (sumN (wF P t) i) (sumN (gF P t) i) (sumN (fun a => (cntF (pF P t a) P.n : Nat)) i) x → VW X 17 [some (mA 44), some (mA k), some (mI i), l3, l4] [] x := by
    refine loop_up _ ?_ ?_
    · intro x l3 l4 w
      have x1 : x 44 1 = P.n := by rw [w.1 44 1 (by omega)]; exact v1
      refine v_iload_n hX eX8_weigh_17 rfl ?_
      refine v_aload_n hX eX8_weigh_18 rfl ?_
      refine v_getI hX eX8_weigh_19 fi_X8_84 ⟨by decide, rfl⟩ ?_
      rw [x1]
      refine v_icmp_ge hX eX8_weigh_22 (tgt := 159) rfl ⟨by omega, by omega⟩ ⟨by omega, by omega⟩ (fun c22 => ?_) (fun c22 => False.elim ((by omega)))
      exact v_return hX hR eX8_weigh_159 rfl (hq _ _ ⟨rfl, w⟩)
    · intro i hi ih x l3 l4 w
      have xv := w.pv v
      have x1 : x 44 1 = P.n := xv.1
      have x46 : ∀ p, p < P.n → x 46 p = if P.pr p = true then 1 else 0 := xv.2.2.1
      have x49 := (xv.2.2.2.2.2.2.1 i hi).1
      have tk : ∀ p, p < P.n → x k p = t p := fun p hp => by rw [w.1 k p (fun z => hk44 z.1)]; exact (ht p hp).1
      have ti := (ht i hi).2
      have r6 := v5 i (t i)
      by_cases hp : P.pr i = true
      · have e46 : x 46 i = 1 := by rw [x46 i hi, if_pos hp]
        have inner : ∀ j : Nat, j ≤ P.n → i < j → ∀ y, WGx P h t (sumN (wF P t) (i + 1)) (sumN (gF P t) (i + 1)) (sumN (fun a => (cntF (pF P t a) P.n : Nat)) i + (cntF (pF P t i) j : Nat)) y → VW X 83 [some (mA 44), some (mA k), some (mI i), some (mI (P.rk i (t i))), some (mI j)] [] y := by
          refine loop_up _ ?_ ?_
          · intro _ y wy
            have y1 : y 44 1 = P.n := (wy.pv v).1
            refine v_iload hX eX8_weigh_83 rfl ?_
            refine v_aload_n hX eX8_weigh_85 rfl ?_
            refine v_getI hX eX8_weigh_86 fi_X8_84 ⟨by decide, rfl⟩ ?_
            rw [y1]
            refine v_icmp_ge hX eX8_weigh_89 (tgt := 153) rfl ⟨by omega, by omega⟩ ⟨by omega, by omega⟩ (fun c89 => ?_) (fun c89 => False.elim ((by omega)))
            refine v_iinc hX eX8_weigh_153 rfl rfl rfl ?_
            exact v_goto hX eX8_weigh_156 (tgt := 17) rfl (ih y _ _ wy)
          · intro j hj ihj hij y wy
            have yv := wy.pv v
            have y1 : y 44 1 = P.n := yv.1
            have y46 : y 46 j = if P.pr j = true then 1 else 0 := yv.2.2.1 j hj
            have y51 := yv.2.2.2.2.2.2.2.1 i j hi hj
            have yt : ∀ p, p < P.n → y k p = t p := fun p hp => by rw [wy.1 k p (fun z => hk44 z.1)]; exact (ht p hp).1
            have tj := (ht j hj).2
            have ei : ((8 : Int) * i + j).toNat = 8 * i + j := by omega
            have y20 := wy.2.2.2
            have step : ∀ b : Int, b = b01 (pF P t i j = true) → VW X 143 [some (mA 44), some (mA k), some (mI i), some (mI (P.rk i (t i))), some (mI j)] [mI b, mI (y 44 20), mA 44] y := by
              intro b hb
              have e2 : y 44 20 + b = sumN (fun a => (cntF (pF P t a) P.n : Nat)) i + (cntF (pF P t i) (j + 1) : Nat) := by
                rw [y20]
                by_cases z : pF P t i j = true
                · rw [hb, b01_t z, cntF_t z, Int.natCast_add, ← Int.add_assoc]; rfl
                · rw [hb, b01_f z, cntF_f z, Int.add_zero]
              have nx := ihj (by omega) (up y 44 20 (y 44 20 + b)) ⟨fun a c hac => by rw [up_ne (by omega)]; exact wy.1 a c hac, by rw [up_ne (by omega)]; exact wy.2.1, by rw [up_ne (by omega)]; exact wy.2.2.1, by rw [up_same]; exact e2⟩
              refine v_iadd hX eX8_weigh_143 ?_
              refine v_putI hX eX8_weigh_144 fi_X8_167 ⟨by decide, rfl⟩ ?_
              refine v_iinc hX eX8_weigh_147 rfl rfl rfl ?_
              refine v_goto hX eX8_weigh_150 (tgt := 83) rfl ?_
              exact nx
            have no : ¬ pF P t i j = true → VW X 143 [some (mA 44), some (mA k), some (mI i), some (mI (P.rk i (t i))), some (mI j)] [mI 0, mI (y 44 20), mA 44] y := fun z => step 0 (b01_f z).symm
            refine v_iload hX eX8_weigh_83 rfl ?_
            refine v_aload_n hX eX8_weigh_85 rfl ?_
            refine v_getI hX eX8_weigh_86 fi_X8_84 ⟨by decide, rfl⟩ ?_
            rw [y1]
            refine v_icmp_ge hX eX8_weigh_89 (tgt := 153) rfl ⟨by omega, by omega⟩ ⟨by omega, by omega⟩ (fun z => False.elim (by omega)) (fun z89 => ?_)
            have b1 : y 51 (8 * i + j) = 0 ∨ y 51 (8 * i + j) = 1 := by rw [y51]; split <;> omega
            have b2 : y 46 j = 0 ∨ y 46 j = 1 := by rw [y46]; split <;> omega
            refine v_aload_n hX eX8_weigh_92 rfl ?_
            refine v_dup hX eX8_weigh_93 rfl ?_
            refine v_getI hX eX8_weigh_94 fi_X8_167 ⟨by decide, rfl⟩ ?_
            refine v_aload_n hX eX8_weigh_97 rfl ?_
            refine v_getA hX eX8_weigh_98 fi_X8_29 ⟨by decide, rfl⟩ rfl ?_
            refine v_bipush hX eX8_weigh_101 (by decide) ?_
            refine v_iload_n hX eX8_weigh_103 rfl ?_
            refine v_imul hX eX8_weigh_104 ?_
            refine v_iload hX eX8_weigh_105 rfl ?_
            refine v_iadd hX eX8_weigh_107 ?_
            refine v_zald hX eX8_weigh_108 (by first | exact ⟨by decide, rfl⟩ | exact hk | exact hk2 | exact AR_rk (by omega)) ⟨by omega, by omega⟩ ?_
            try simp only [Int.toNat_natCast, Int.toNat_zero, Int.reduceToNat]
            rw [ei]
            refine v_if_eq hX eX8_weigh_109 (tgt := 142) rfl ⟨by omega, by omega⟩ (fun c109 => ?_) (fun c109 => ?_)
            · refine v_iconst hX eX8_weigh_142 ?_
              exact no (fun z => by rw [y51, if_pos (pF_iff.mp z).2.2.2.1] at c109; exact absurd c109 (by decide))
            · refine v_aload_n hX eX8_weigh_112 rfl ?_
              refine v_getA hX eX8_weigh_113 fi_X8_13 ⟨by decide, rfl⟩ rfl ?_
              refine v_iload hX eX8_weigh_116 rfl ?_
              refine v_zald hX eX8_weigh_118 (by first | exact ⟨by decide, rfl⟩ | exact hk | exact hk2 | exact AR_rk (by omega)) ⟨by omega, by omega⟩ ?_
              try simp only [Int.toNat_natCast, Int.toNat_zero, Int.reduceToNat]
              refine v_if_eq hX eX8_weigh_119 (tgt := 142) rfl ⟨by omega, by omega⟩ (fun c119 => ?_) (fun c119 => ?_)
              · refine v_iconst hX eX8_weigh_142 ?_
                exact no (fun z => by rw [y46, if_pos (pF_iff.mp z).2.2.1] at c119; exact absurd c119 (by decide))
              · refine v_aload_n hX eX8_weigh_122 rfl ?_
                refine v_iload_n hX eX8_weigh_123 rfl ?_
                refine v_iald hX eX8_weigh_124 (by first | exact ⟨by decide, rfl⟩ | exact hk | exact hk2 | exact AR_rk (by omega)) ⟨by omega, by omega⟩ ?_
                try simp only [Int.toNat_natCast, Int.toNat_zero, Int.reduceToNat]
                rw [yt i hi]
                refine v_if_lt hX eX8_weigh_125 (tgt := 142) rfl ⟨by omega, by omega⟩ (fun c125 => ?_) (fun c125 => ?_)
                · refine v_iconst hX eX8_weigh_142 ?_
                  exact no (fun z => by have := (pF_iff.mp z).2.2.2.2.1; omega)
                · refine v_aload_n hX eX8_weigh_128 rfl ?_
                  refine v_iload_n hX eX8_weigh_129 rfl ?_
                  refine v_iald hX eX8_weigh_130 (by first | exact ⟨by decide, rfl⟩ | exact hk | exact hk2 | exact AR_rk (by omega)) ⟨by omega, by omega⟩ ?_
                  try simp only [Int.toNat_natCast, Int.toNat_zero, Int.reduceToNat]
                  rw [yt i hi]
                  refine v_aload_n hX eX8_weigh_131 rfl ?_
                  refine v_iload hX eX8_weigh_132 rfl ?_
                  refine v_iald hX eX8_weigh_134 (by first | exact ⟨by decide, rfl⟩ | exact hk | exact hk2 | exact AR_rk (by omega)) ⟨by omega, by omega⟩ ?_
                  try simp only [Int.toNat_natCast, Int.toNat_zero, Int.reduceToNat]
                  rw [yt j hj]
                  refine v_icmp_ne hX eX8_weigh_135 (tgt := 142) rfl ⟨by omega, by omega⟩ ⟨by omega, by omega⟩ (fun c135 => ?_) (fun c135 => ?_)
                  · refine v_iconst hX eX8_weigh_142 ?_
                    exact no (fun z => c135 (pF_iff.mp z).2.2.2.2.2)
                  · refine v_iconst hX eX8_weigh_138 ?_
                    refine v_goto hX eX8_weigh_139 (tgt := 143) rfl ?_
                    refine step 1 (b01_t (pF_iff.mpr ⟨hij, hp, ?_, ?_, by omega, c135⟩)).symm
                    · rw [y46] at c119
                      by_cases z : P.pr j = true
                      · exact z
                      · rw [if_neg z] at c119; exact absurd rfl c119
                    · rw [y51] at c109
                      by_cases z : P.fr i j = true
                      · exact z
                      · rw [if_neg z] at c109; exact absurd rfl c109
        have e0 : cntF (pF P t i) (i + 1) = 0 := cntF_no0 (fun j hj z => by have := (pF_iff.mp z).1; omega)
        have i0 := inner (i + 1) (by omega) (by omega) (up (up x 44 18 (x 44 18 + nin (P.rk i (t i)))) 44 19 (x 44 19 + P.rk i (t i) * (P.sc i + 1))) ⟨fun a c hac => by rw [up_ne (by omega), up_ne (by omega)]; exact w.1 a c hac, by rw [up_ne (by omega), up_same, w.2.1, sumN, wF, if_pos hp], by rw [up_same, w.2.2.1, sumN, gF, if_pos hp], by rw [up_ne (by omega), up_ne (by omega), w.2.2.2, e0]; simp⟩
        refine v_iload_n hX eX8_weigh_17 rfl ?_
        refine v_aload_n hX eX8_weigh_18 rfl ?_
        refine v_getI hX eX8_weigh_19 fi_X8_84 ⟨by decide, rfl⟩ ?_
        rw [x1]
        refine v_icmp_ge hX eX8_weigh_22 (tgt := 159) rfl ⟨by omega, by omega⟩ ⟨by omega, by omega⟩ (fun c22 => False.elim ((by omega))) (fun c22 => ?_)
        refine v_aload_n hX eX8_weigh_25 rfl ?_
        refine v_getA hX eX8_weigh_26 fi_X8_13 ⟨by decide, rfl⟩ rfl ?_
        refine v_iload_n hX eX8_weigh_29 rfl ?_
        refine v_zald hX eX8_weigh_30 (by first | exact ⟨by decide, rfl⟩ | exact hk | exact hk2 | exact AR_rk (by omega)) ⟨by omega, by omega⟩ ?_
        try simp only [Int.toNat_natCast, Int.toNat_zero, Int.reduceToNat]
        rw [e46]
        refine v_if_ne hX eX8_weigh_31 (tgt := 37) rfl ⟨by omega, by omega⟩ (fun c31 => ?_) (fun c31 => False.elim ((absurd c31 (by decide))))
        refine v_aload_n hX eX8_weigh_37 rfl ?_
        refine v_iload_n hX eX8_weigh_38 rfl ?_
        refine v_aload_n hX eX8_weigh_39 rfl ?_
        refine v_iload_n hX eX8_weigh_40 rfl ?_
        refine v_iald hX eX8_weigh_41 (by first | exact ⟨by decide, rfl⟩ | exact hk | exact hk2 | exact AR_rk (by omega)) ⟨by omega, by omega⟩ ?_
        try simp only [Int.toNat_natCast, Int.toNat_zero, Int.reduceToNat]
        rw [tk i hi]
        refine v_fnV hX eX8_weigh_42 lV_X8_170 ok_MX8_rankBy ⟨by decide, rfl⟩ rfl ⟨rfl, Nat.le_of_ble_eq_true rfl⟩ (Nat.le_of_ble_eq_true rfl) (c_X8_rankBy xv hi ⟨by omega, by omega⟩) rfl ?_
        try simp only [Int.toNat_natCast, Int.toNat_zero, Int.reduceToNat]
        refine v_istore_n hX eX8_weigh_45 rfl rfl ?_
        refine v_aload_n hX eX8_weigh_46 rfl ?_
        refine v_dup hX eX8_weigh_47 rfl ?_
        refine v_getI hX eX8_weigh_48 fi_X8_161 ⟨by decide, rfl⟩ ?_
        refine v_iload_n hX eX8_weigh_51 rfl ?_
        refine v_fnS hX eX8_weigh_52 lS_X8_173 ok_MX8_nines ⟨rfl, Nat.le_of_ble_eq_true rfl⟩ (Nat.le_of_ble_eq_true rfl) (c_X8_nines ⟨by omega, by omega⟩) rfl ?_
        try simp only [Int.toNat_natCast, Int.toNat_zero, Int.reduceToNat]
        refine v_iadd hX eX8_weigh_55 ?_
        refine v_putI hX eX8_weigh_56 fi_X8_161 ⟨by decide, rfl⟩ ?_
        refine v_aload_n hX eX8_weigh_59 rfl ?_
        refine v_dup hX eX8_weigh_60 rfl ?_
        refine v_getI hX eX8_weigh_61 fi_X8_164 ⟨by decide, rfl⟩ ?_
        rw [up_ne (by omega)]
        refine v_iload_n hX eX8_weigh_64 rfl ?_
        refine v_aload_n hX eX8_weigh_65 rfl ?_
        refine v_getA hX eX8_weigh_66 fi_X8_23 ⟨by decide, rfl⟩ rfl ?_
        refine v_iload_n hX eX8_weigh_69 rfl ?_
        refine v_iald hX eX8_weigh_70 (by first | exact ⟨by decide, rfl⟩ | exact hk | exact hk2 | exact AR_rk (by omega)) ⟨by omega, by omega⟩ ?_
        try simp only [Int.toNat_natCast, Int.toNat_zero, Int.reduceToNat]
        rw [up_ob (by decide), x49]
        refine v_iconst hX eX8_weigh_71 ?_
        refine v_iadd hX eX8_weigh_72 ?_
        refine v_imul hX eX8_weigh_73 ?_
        refine v_iadd hX eX8_weigh_74 ?_
        refine v_putI hX eX8_weigh_75 fi_X8_164 ⟨by decide, rfl⟩ ?_
        refine v_iload_n hX eX8_weigh_78 rfl ?_
        refine v_iconst hX eX8_weigh_79 ?_
        refine v_iadd hX eX8_weigh_80 ?_
        refine v_istore hX eX8_weigh_81 rfl rfl ?_
        exact i0
      · have e46 : x 46 i = 0 := by rw [x46 i hi, if_neg hp]
        have nx := fun l3 l4 => ih x l3 l4 (by
          rw [sumN, sumN, sumN, wF, if_neg hp, gF, if_neg hp, cntF_no0 (f := pF P t i) (fun j _ z => hp (pF_iff.mp z).2.1)]
          simp only [Int.natCast_zero, Int.add_zero]
          exact w)
        refine v_iload_n hX eX8_weigh_17 rfl ?_
        refine v_aload_n hX eX8_weigh_18 rfl ?_
        refine v_getI hX eX8_weigh_19 fi_X8_84 ⟨by decide, rfl⟩ ?_
        rw [x1]
        refine v_icmp_ge hX eX8_weigh_22 (tgt := 159) rfl ⟨by omega, by omega⟩ ⟨by omega, by omega⟩ (fun c22 => False.elim ((by omega))) (fun c22 => ?_)
        refine v_aload_n hX eX8_weigh_25 rfl ?_
        refine v_getA hX eX8_weigh_26 fi_X8_13 ⟨by decide, rfl⟩ rfl ?_
        refine v_iload_n hX eX8_weigh_29 rfl ?_
        refine v_zald hX eX8_weigh_30 (by first | exact ⟨by decide, rfl⟩ | exact hk | exact hk2 | exact AR_rk (by omega)) ⟨by omega, by omega⟩ ?_
        try simp only [Int.toNat_natCast, Int.toNat_zero, Int.reduceToNat]
        rw [e46]
        refine v_if_ne hX eX8_weigh_31 (tgt := 37) rfl ⟨by omega, by omega⟩ (fun c31 => False.elim ((c31 rfl))) (fun c31 => ?_)
        refine v_goto hX eX8_weigh_34 (tgt := 153) rfl ?_
        refine v_iinc hX eX8_weigh_153 rfl rfl rfl ?_
        refine v_goto hX eX8_weigh_156 (tgt := 17) rfl ?_
        exact nx _ _
  show VW X 0 [some (mA 44), some (mA k), none, none, none] [] h
  refine v_aload_n hX eX8_weigh_0 rfl ?_
  refine v_iconst hX eX8_weigh_1 ?_
  refine v_putI hX eX8_weigh_2 fi_X8_161 ⟨by decide, rfl⟩ ?_
  refine v_aload_n hX eX8_weigh_5 rfl ?_
  refine v_iconst hX eX8_weigh_6 ?_
  refine v_putI hX eX8_weigh_7 fi_X8_164 ⟨by decide, rfl⟩ ?_
  refine v_aload_n hX eX8_weigh_10 rfl ?_
  refine v_iconst hX eX8_weigh_11 ?_
  refine v_putI hX eX8_weigh_12 fi_X8_167 ⟨by decide, rfl⟩ ?_
  refine v_iconst hX eX8_weigh_15 ?_
  refine v_istore_n hX eX8_weigh_16 rfl rfl ?_
  exact loop 0 (by omega) _ _ _ ⟨fun a c hac => by rw [up_ne (by omega), up_ne (by omega), up_ne (by omega)], by rw [up_ne (by omega), up_ne (by omega), up_same]; rfl, by rw [up_ne (by omega), up_same]; rfl, by rw [up_same]; rfl⟩
