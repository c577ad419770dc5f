/-! the model's search: may a PUPIL go there? -/
def mayP (h : Hp) (t : Nat → Int) (p q : Nat) : Prop := h (39 + q) 5 = 1 ∧ (cntF (fun i => decide (t i = q)) p : Nat) < h (39 + q) 2 * (if h (39 + q) 0 = 2 then 2 else 1) ∧ ∀ i, i < p → t i = q → apB h i p = false
set_option maxHeartbeats 2000000 in
set_option maxRecDepth 20000 in
theorem c_X8_may {d : Nat} {h : Hp} {p q : Nat} {t : Nat → Int} (hI : RI h) (r : RLr h) (hp : p < (h 1 3).toNat) (hq5 : q < (h 1 4).toNat) (ht : ∀ i, i < p → h 60 i = t i ∧ rng (t i)) : Fn (d + 1) MX8_may [mA 44, mI p, mI q] h (some (mI (b01 (mayP h t p q)))) h := by
  intro Q hq X hX hR
  have hn := hI.n
  have hm := hI.q
  obtain ⟨p1, p2, p3, p4, p5, p6, p7⟩ := hI.pr (p := q) (by omega)
  obtain ⟨r1, r2, r3, r4, r5, r6⟩ := r.pr hq5
  have cle := cntF_le (fun i => decide (t i = q)) p
  have loop : h (39 + q) 5 = 1 → (cntF (fun i => decide (t i = q)) p : Nat) < h (39 + q) 2 * (if h (39 + q) 0 = 2 then 2 else 1) → ∀ i : Nat, i ≤ p → VW X 50 [some (mA 44), some (mI p), some (mI q), some (mI (b01 (∀ j, j < i → t j = q → apB h j p = false))), some (mI i)] [] h := by
    intro h1 h2
    refine loop_up _ ?_ ?_
    · refine v_iload hX eX8_may_50 rfl ?_
      refine v_iload_n hX eX8_may_52 rfl ?_
      refine v_icmp_ge hX eX8_may_53 (tgt := 98) rfl ⟨by omega, by omega⟩ ⟨by omega, by omega⟩ (fun c53 => ?_) (fun c53 => False.elim ((by omega)))
      refine v_iload_n hX eX8_may_98 rfl ?_
      exact v_zreturn hX hR eX8_may_99 rfl (b01_or _) (q_i (b01_iff ⟨fun z => z.2.2, fun z => ⟨h1, h2, z⟩⟩) hq)
    · intro i hi ih
      obtain ⟨t1, t2⟩ := ht i hi
      obtain ⟨f1, f2, f3, f4, f5, f6⟩ := r.fr (a := i) (b := p) (by omega) (by omega)
      have ei : ((8 : Int) * i + p).toNat = 8 * i + p := by omega
      have nx : ∀ P : Prop, (P ↔ ∀ j, j < i + 1 → t j = q → apB h j p = false) → VW X 91 [some (mA 44), some (mI p), some (mI q), some (mI (b01 (∀ j, j < i → t j = q → apB h j p = false))), some (mI i)] [mI (b01 P)] h := by
        intro P hP
        rw [b01_iff hP]
        refine v_istore_n hX eX8_may_91 rfl rfl ?_
        refine v_iinc hX eX8_may_92 rfl rfl rfl ?_
        refine v_goto hX eX8_may_95 (tgt := 50) rfl ?_
        exact ih
      have t1' : (∀ j, j < i + 1 → t j = q → apB h j p = false) → VW X 91 [some (mA 44), some (mI p), some (mI q), some (mI (b01 (∀ j, j < i → t j = q → apB h j p = false))), some (mI i)] [mI 1] h := fun z => by
        have := nx True ⟨fun _ => z, fun _ => trivial⟩
        rw [b01_t trivial] at this
        exact this
      have t0 : ¬ (∀ j, j < i + 1 → t j = q → apB h j p = false) → VW X 91 [some (mA 44), some (mI p), some (mI q), some (mI (b01 (∀ j, j < i → t j = q → apB h j p = false))), some (mI i)] [mI 0] h := fun z => by
        have := nx False ⟨fun y => y.elim, fun y => z y⟩
        rw [b01_f (fun y => y)] at this
        exact this
      refine v_iload hX eX8_may_50 rfl ?_
      refine v_iload_n hX eX8_may_52 rfl ?_
      refine v_icmp_ge hX eX8_may_53 (tgt := 98) rfl ⟨by omega, by omega⟩ ⟨by omega, by omega⟩ (fun c53 => False.elim ((by omega))) (fun c53 => ?_)
      refine v_iload_n hX eX8_may_56 rfl ?_
      refine v_ifB_eq hX eX8_may_57 (tgt := 90) rfl (fun c57 => ?_) (fun c57 => ?_)
      · refine v_iconst hX eX8_may_90 ?_
        exact t0 (fun z => c57 (fun j hj => z j (by omega)))
      · refine v_aload_n hX eX8_may_60 rfl ?_
        refine v_getA hX eX8_may_61 fi_X8_56 ⟨by decide, rfl⟩ rfl ?_
        refine v_iload hX eX8_may_64 rfl ?_
        refine v_iald hX eX8_may_66 (by first | exact ⟨by decide, rfl⟩ | exact hk | exact hk2 | exact AR_rk (by omega)) ⟨by omega, by omega⟩ ?_
        try simp only [Int.toNat_natCast, Int.toNat_zero, Int.reduceToNat]
        rw [t1]
        refine v_iload_n hX eX8_may_67 rfl ?_
        refine v_icmp_ne hX eX8_may_68 (tgt := 86) rfl ⟨by omega, by omega⟩ ⟨by omega, by omega⟩ (fun c68 => ?_) (fun c68 => ?_)
        · refine v_iconst hX eX8_may_86 ?_
          refine v_goto hX eX8_may_87 (tgt := 91) rfl (t1' (fun j hj e => if z : j = i then (by subst z; exact absurd e c68) else c57 j (by omega) e))
        · refine v_aload_n hX eX8_may_71 rfl ?_
          refine v_getA hX eX8_may_72 fi_X8_32 ⟨by decide, rfl⟩ rfl ?_
          refine v_bipush hX eX8_may_75 (by decide) ?_
          refine v_iload hX eX8_may_77 rfl ?_
          refine v_imul hX eX8_may_79 ?_
          refine v_iload_n hX eX8_may_80 rfl ?_
          refine v_iadd hX eX8_may_81 ?_
          refine v_zald hX eX8_may_82 (by first | exact ⟨by decide, rfl⟩ | exact hk | exact hk2 | exact AR_rk (by omega)) ⟨by omega, by omega⟩ ?_
          try simp only [Int.toNat_natCast, Int.toNat_zero, Int.reduceToNat]
          rw [ei]
          refine v_if_ne hX eX8_may_83 (tgt := 90) rfl ⟨by omega, by omega⟩ (fun c83 => ?_) (fun c83 => ?_)
          · refine v_iconst hX eX8_may_90 ?_
            exact t0 (fun z => by have := z i (by omega) c68; rw [f2.mpr (by omega)] at this; cases this)
          · refine v_iconst hX eX8_may_86 ?_
            refine v_goto hX eX8_may_87 (tgt := 91) rfl (t1' (fun j hj e => if z : j = i then (by subst z; cases y : apB h j p; rfl; (have := f2.mp y; omega)) else c57 j (by omega) e))
  show VW X 0 [some (mA 44), some (mI p), some (mI q), none, none] [] h
  refine v_aload_n hX eX8_may_0 rfl ?_
  refine v_getA hX eX8_may_1 fi_X8_53 ⟨by decide, rfl⟩ rfl ?_
  refine v_iload_n hX eX8_may_4 rfl ?_
  refine v_zald hX eX8_may_5 (by first | exact ⟨by decide, rfl⟩ | exact hk | exact hk2 | exact AR_rk (by omega)) ⟨by omega, by omega⟩ ?_
  try simp only [Int.toNat_natCast, Int.toNat_zero, Int.reduceToNat]
  refine v_if_eq hX eX8_may_6 (tgt := 43) rfl ⟨by omega, by omega⟩ (fun c6 => ?_) (fun c6 => ?_)
  · refine v_iconst hX eX8_may_43 ?_
    exact v_zreturn hX hR eX8_may_44 rfl (by omega) (q_f (fun z => by have := z.1; omega) hq)
  · refine v_aload_n hX eX8_may_9 rfl ?_
    refine v_getA hX eX8_may_10 fi_X8_56 ⟨by decide, rfl⟩ rfl ?_
    refine v_iload_n hX eX8_may_13 rfl ?_
    refine v_iload_n hX eX8_may_14 rfl ?_
    refine v_fnS hX eX8_may_15 lS_X8_143 ok_MX8_sizeOf ⟨rfl, Nat.le_of_ble_eq_true rfl⟩ (Nat.le_of_ble_eq_true rfl) (c_X8_sizeOf (n := p) (q := (q : Int)) ⟨by decide, rfl⟩ (by omega) ht ⟨by omega, by omega⟩) rfl ?_
    try simp only [Int.toNat_natCast, Int.toNat_zero, Int.reduceToNat]
    refine v_aload_n hX eX8_may_18 rfl ?_
    refine v_getA hX eX8_may_19 fi_X8_44 ⟨by decide, rfl⟩ rfl ?_
    refine v_iload_n hX eX8_may_22 rfl ?_
    refine v_iald hX eX8_may_23 (by first | exact ⟨by decide, rfl⟩ | exact hk | exact hk2 | exact AR_rk (by omega)) ⟨by omega, by omega⟩ ?_
    try simp only [Int.toNat_natCast, Int.toNat_zero, Int.reduceToNat]
    refine v_aload_n hX eX8_may_24 rfl ?_
    refine v_getA hX eX8_may_25 fi_X8_38 ⟨by decide, rfl⟩ rfl ?_
    refine v_iload_n hX eX8_may_28 rfl ?_
    refine v_iald hX eX8_may_29 (by first | exact ⟨by decide, rfl⟩ | exact hk | exact hk2 | exact AR_rk (by omega)) ⟨by omega, by omega⟩ ?_
    try simp only [Int.toNat_natCast, Int.toNat_zero, Int.reduceToNat]
    refine v_iconst hX eX8_may_30 ?_
    refine v_icmp_ne hX eX8_may_31 (tgt := 38) rfl ⟨by omega, by omega⟩ ⟨by omega, by omega⟩ (fun c31 => ?_) (fun c31 => ?_)
    · refine v_iconst hX eX8_may_38 ?_
      refine v_imul hX eX8_may_39 ?_
      refine v_icmp_lt hX eX8_may_40 (tgt := 45) rfl ⟨by omega, by omega⟩ ⟨by omega, by omega⟩ (fun c40 => ?_) (fun c40 => ?_)
      · refine v_iconst hX eX8_may_45 ?_
        refine v_istore_n hX eX8_may_46 rfl rfl ?_
        refine v_iconst hX eX8_may_47 ?_
        refine v_istore hX eX8_may_48 rfl rfl ?_
        have l0 := loop (by omega) (by rw [if_neg (by omega)]; omega) 0 (by omega)
        rw [b01_t (fun j hj => absurd hj (Nat.not_lt_zero _))] at l0
        exact l0
      · refine v_iconst hX eX8_may_43 ?_
        exact v_zreturn hX hR eX8_may_44 rfl (by omega) (q_f (fun z => by have := z.2.1; rw [if_neg (by omega)] at this; omega) hq)
    · refine v_iconst hX eX8_may_34 ?_
      refine v_goto hX eX8_may_35 (tgt := 39) rfl ?_
      refine v_imul hX eX8_may_39 ?_
      refine v_icmp_lt hX eX8_may_40 (tgt := 45) rfl ⟨by omega, by omega⟩ ⟨by omega, by omega⟩ (fun c40 => ?_) (fun c40 => ?_)
      · refine v_iconst hX eX8_may_45 ?_
        refine v_istore_n hX eX8_may_46 rfl rfl ?_
        refine v_iconst hX eX8_may_47 ?_
        refine v_istore hX eX8_may_48 rfl rfl ?_
        have l0 := loop (by omega) (by rw [if_pos (by omega)]; omega) 0 (by omega)
        rw [b01_t (fun j hj => absurd hj (Nat.not_lt_zero _))] at l0
        exact l0
      · refine v_iconst hX eX8_may_43 ?_
        exact v_zreturn hX hR eX8_may_44 rfl (by omega) (q_f (fun z => by have := z.2.1; rw [if_pos (by omega)] at this; omega) hq)
