/-! the model's search is the class's search -/
def MS (h x : Hp) : Prop := ∀ a j, ¬ (a = 44 ∧ 18 ≤ j ∧ j ≤ 27) → a ≠ 60 → a ≠ 61 → x a j = h a j
theorem MS.rf {h : Hp} : MS h h := fun _ _ _ _ _ => rfl
theorem MS.tr {h x y : Hp} (a : MS h x) (b : MS x y) : MS h y := fun k j h1 h2 h3 => (b k j h1 h2 h3).trans (a k j h1 h2 h3)
theorem MS.ob {h x : Hp} (m : MS h x) {a : Nat} (h1 : a ≠ 44) (h2 : a ≠ 60) (h3 : a ≠ 61) : x a = h a := funext fun j => m a j (fun z => h1 z.1) h2 h3
theorem MS.sr {h x : Hp} (m : MS h x) : SR h x := ⟨fun k hk => m.ob (by omega) (by omega) (by omega), fun k hk => m.ob (by omega) (by omega) (by omega), m 44 1 (by omega) (by omega) (by omega), m 44 11 (by omega) (by omega) (by omega)⟩
theorem MS.pv {P : SP} {h x : Hp} (m : MS h x) (v : PV P h) : PV P x := v.congr (m 44 1 (by omega) (by omega) (by omega)) (fun k hk => m.ob (by omega) (by omega) (by omega))
theorem MS.ldi {h x : Hp} (m : MS h x) (hI : RI h) (l : LDI h) : LDI x := by
  have hm := hI.q
  have e1 : x 1 = h 1 := m.ob (by decide) (by decide) (by decide)
  intro q hq h3
  rw [e1] at hq
  have e2 : x (39 + q) = h (39 + q) := m.ob (by omega) (by omega) (by omega)
  rw [e2] at h3 ⊢
  rw [e1]
  exact l q hq h3
theorem LFO_ms {h x : Hp} (m : MS h x) (hI : RI h) (t : Nat → Int) : LFO x t ↔ LFO h t := by
  have hn := hI.n
  have hm := hI.q
  have e1 : x 1 = h 1 := m.ob (by decide) (by decide) (by decide)
  unfold LFO
  rw [e1]
  have key : ∀ q, q < (h 1 4).toNat → ∀ g, (tks x q (bcnt g) ↔ tks h q (bcnt g)) ∧ (lkl x q g ↔ lkl h q g) ∧ (lks x q g ↔ lks h q g) := fun q hq g => by
    have e2 : x (39 + q) = h (39 + q) := m.ob (by omega) (by omega) (by omega)
    have ec : ∀ b, cntF (hasF x g b) (h 1 3).toNat = cntF (hasF h g b) (h 1 3).toNat := fun b => cntF_congr _ (fun i hi => by
      rw [hasF, hasF, skB, skB, show x (23 + i) = h (23 + i) from m.ob (by omega) (by omega) (by omega)])
    refine ⟨by unfold tks rtw; rw [e2], by unfold lkl; rw [e2], ?_⟩
    unfold lks neB rtw
    rw [e1, e2]
    simp only [ec]
  constructor
  · intro w q hq
    obtain ⟨k1, k2, k3⟩ := key q hq (gT t (h 1 3).toNat q)
    rcases w q hq with z | ⟨z1, z2, z3⟩
    · exact Or.inl z
    · exact Or.inr ⟨k1.mp z1, fun y => z2 (k2.mpr y), fun y => z3 (k3.mpr y)⟩
  · intro w q hq
    obtain ⟨k1, k2, k3⟩ := key q hq (gT t (h 1 3).toNat q)
    rcases w q hq with z | ⟨z1, z2, z3⟩
    · exact Or.inl z
    · exact Or.inr ⟨k1.mpr z1, fun y => z2 (k2.mp y), fun y => z3 (k3.mp y)⟩
theorem mayP_ms {h x : Hp} (m : MS h x) (hI : RI h) {t : Nat → Int} {p q : Nat} (hp : p < 8) (hq : q < 5) : mayP x t p q ↔ mayP h t p q := by
  have e2 : x (39 + q) = h (39 + q) := m.ob (by omega) (by omega) (by omega)
  have e3 : ∀ i, i < p → apB x i p = apB h i p := fun i hi => by
    unfold apB
    rw [show x (23 + i) = h (23 + i) from m.ob (by omega) (by omega) (by omega)]
  unfold mayP
  rw [e2]
  constructor
  · rintro ⟨a, b, c⟩
    exact ⟨a, b, fun i hi z => by rw [← e3 i hi]; exact c i hi z⟩
  · rintro ⟨a, b, c⟩
    exact ⟨a, b, fun i hi z => by rw [e3 i hi]; exact c i hi z⟩
/-- what the search of the model keeps beside the class's numbers: kept by every leaf -/
def RELS (h e : Hp) (P : SP) (lw : Int) (R : Hp → SGT → Prop) : Prop :=
  (∀ x y s, R x s → (∀ j, 23 ≤ j → j ≤ 27 → y 44 j = x 44 j) → y 61 = x 61 → R y s) ∧
  (∀ x s, R x s → 0 ≤ s.2.2.1 ∧ s.2.2.1 < 1000000 → rng (x 44 23) ∧ rng (x 44 27) ∧ (h 44 28 = 1 ∨ (2 ≤ h 44 28 ∧ x 44 23 ≠ 0) → TV 61 (x 61) P.n x ∧ rng (x 44 24) ∧ rng (x 44 25) ∧ rng (x 44 26))) ∧
  ∀ x y s t, MS h x → R x s → PTH h t (h 1 3).toNat → (∀ i, i < P.n → x 60 i = t i) → FNx P x t y → R y (jst e lw t s)
def P50 (h : Hp) : Prop := ∀ p, p < (h 1 3).toNat → -1 ≤ h 50 p ∧ h 50 p < 5
def HYP (h e : Hp) (P : SP) : Prop := RI h ∧ RLr h ∧ LDI h ∧ PV P h ∧ (∀ a, a < (h 1 3).toNat → apB h a a = false) ∧ EFH e h ∧ P50 h ∧ (0 ≤ h 44 28 ∧ h 44 28 ≤ 3)
theorem FNx.ms {P : SP} {h x : Hp} {t : Nat → Int} (f : FNx P h t x) : MS h x := fun a j h1 _ h3 => f.1 a j h1 h3
set_option maxHeartbeats 2000000 in
set_option maxRecDepth 20000 in
theorem c_X8_goes {h e : Hp} {P : SP} {lw : Int} {R : Hp → SGT → Prop} (y0 : HYP h e P) (rel : RELS h e P lw R) : ∀ (k p : Nat), p + k = (h 1 3).toNat → ∀ (d : Nat) (x : Hp) (t : Nat → Int) (s : SGT), MS h x → PTH h t p → (∀ i, i < p → x 60 i = t i) → R x s → (0 ≤ s.2.2.1 ∧ s.2.2.1 + ((5 ^ k : Nat) : Int) ≤ 500000) →
    Fr (d + k + 5) MX8_goes [mA 44, mI p] x (fun r y => r = none ∧ MS h y ∧ (∀ i, i < p → y 60 i = t i) ∧ R y (ext e lw (8 - p) t s)) := by
  obtain ⟨hI, r, hl, v, apS, ef, hpq, h28⟩ := y0
  obtain ⟨rel1, rel2, rel3⟩ := rel
  have hn := hI.n
  have hm := hI.q
  have en := r.n
  have eq := r.q
  have v1 := v.1
  have pn : P.n = (h 1 3).toNat := by omega
  intro k
  induction k with
  | zero =>
    intro p hp d x t s mx pt ht hr hb Q hq X hX hR
    have sr := mx.sr
    have xI := sr.ri hI
    have x1 : x 44 1 = h 44 1 := mx 44 1 (by omega) (by omega) (by omega)
    have x28 : x 44 28 = h 44 28 := mx 44 28 (by omega) (by omega) (by omega)
    obtain ⟨b1, b2, b3⟩ := rel2 x s hr (by omega)
    have tv : TV 60 t P.n x := fun i hi => ⟨ht i (by omega), by
      by_cases z : prF h i = true
      · have := pt.1 i (by omega) z; omega
      · have := pt.2 i (by omega) (fun y => z y.2); omega⟩
    have tp : TV 50 (x 50) P.n x := fun i hi => ⟨rfl, by
      rw [mx.ob (by decide) (by decide) (by decide)]
      have := hpq i (by omega); omega⟩
    have ab : ext e lw (8 - p) t s = jst e lw t s := ext_abs _ (by omega) (fun j h1 h2 => by rw [ef.2.1]; simp [show ¬ j < (h 1 3).toNat by omega])
    show VW X 0 [some (mA 44), some (mI p), none] [] x
    refine v_iload_n hX eX8_goes_0 rfl ?_
    refine v_aload_n hX eX8_goes_1 rfl ?_
    refine v_getI hX eX8_goes_2 fi_X8_84 ⟨by decide, rfl⟩ ?_
    rw [x1]
    refine v_icmp_ne hX eX8_goes_5 (tgt := 13) rfl ⟨by omega, by omega⟩ ⟨by omega, by omega⟩ (fun c5 => False.elim ((by omega))) (fun c5 => ?_)
    refine v_aload_n hX eX8_goes_8 rfl ?_
    refine v_frV hX eX8_goes_9 lV_X8_213 ok_MX8_finds ⟨by decide, rfl⟩ rfl ⟨rfl, Nat.le_of_ble_eq_true rfl⟩ (Nat.le_of_ble_eq_true rfl) (c_X8_finds xI (sr.rl hI r) (mx.ldi hI hl) (mx.pv v) tv (by rw [x28]; exact b3) tp (by rw [x28]; exact h28) b1 b2) rfl ?_
    rintro rr y ⟨rfl, fx⟩
    exact v_return hX hR eX8_goes_12 rfl (hq _ _ ⟨rfl, mx.tr fx.ms, fun i hi => by rw [show y 60 i = x 60 i from fx.1 60 i (by omega) (by decide)]; exact ht i hi, by rw [ab]; exact rel3 x y s t mx hr (by rw [show (h 1 3).toNat = p by omega]; exact pt) (fun i hi => ht i (by omega)) fx⟩)
  | succ k ih =>
    intro p hp d x t s mx pt ht hr hb Q hq X hX hR
    have sr := mx.sr
    have xI := sr.ri hI
    have x1 : x 44 1 = h 44 1 := mx 44 1 (by omega) (by omega) (by omega)
    have x46 : x 46 p = h (23 + p) 6 := by rw [mx.ob (by decide) (by decide) (by decide)]; exact (r.pu (p := p) (by omega)).2
    have h6 := (hI.pu (p := p) (by omega)).2.2.2.2.2.1
    have e5 : ((5 ^ (k + 1) : Nat) : Int) = 5 * ((5 ^ k : Nat) : Int) := by rw [Nat.pow_succ]; omega
    have p0 : (0 : Int) < ((5 ^ k : Nat) : Int) := Int.ofNat_lt.mpr (Nat.pow_pos (by decide))
    have ee : 8 - p = (8 - (p + 1)) + 1 := by omega
    have e7 : 7 - (8 - (p + 1)) = p := by omega
    by_cases hpr : prF h p = true
    · have h61 : h (23 + p) 6 = 1 := by simpa [prF] using hpr
      have ip : isP e p = true := by rw [ef.2.1]; simp [hpr, show p < (h 1 3).toNat by omega]
      have e27 : (e 2 7).toNat = (h 1 4).toNat := by rw [ef.1]
      have exq : ext e lw (8 - p) t s = foldq (fun q s => ext e lw (8 - (p + 1)) (setT t p q) s) (h 1 4).toNat s := by
        rw [ee, ext, e7, if_pos ip, e27]
      have hits : ∀ q : Nat, q ≤ (h 1 4).toNat → 0 ≤ (foldq (fun q s => ext e lw (8 - (p + 1)) (setT t p q) s) q s).2.2.1 := fun q hq0 => by
        have := foldq_hits (f := fun q s => ext e lw (8 - (p + 1)) (setT t p q) s) (b := ((5 ^ (8 - (p + 1)) : Nat) : Int)) (fun q s => ext_hits0 (by omega) _ _ _) q s
        omega
      have hitsA : ∀ (q : Nat) (s0 : SGT), s0.2.2.1 ≤ (ext e lw (8 - (p + 1)) (setT t p q) s0).2.2.1 ∧ (ext e lw (8 - (p + 1)) (setT t p q) s0).2.2.1 ≤ s0.2.2.1 + ((5 ^ k : Nat) : Int) := fun q s0 => by
        rw [show 8 - (p + 1) = k + (8 - (h 1 3).toNat) by omega]
        exact ext_hits_abs (by omega) k (8 - (h 1 3).toNat) (by omega) (fun j h1 h2 => by rw [ef.2.1]; simp [show ¬ j < (h 1 3).toNat by omega]) _ _
      have loop : ∀ (m q : Nat), q + m = (h 1 4).toNat → ∀ y, MS h y → (∀ i, i < p → y 60 i = t i) → R y (foldq (fun q s => ext e lw (8 - (p + 1)) (setT t p q) s) q s) → VW X 39 [some (mA 44), some (mI p), some (mI q)] [] y := by
        intro m
        induction m with
        | zero =>
          intro q hq0 y my ty ry
          have y11 : y 44 11 = h 44 11 := my 44 11 (by omega) (by omega) (by omega)
          have fin := hq none y ⟨rfl, my, ty, by rw [exq, ← show q = (h 1 4).toNat by omega]; exact ry⟩
          refine v_iload_n hX eX8_goes_39 rfl ?_
          refine v_aload_n hX eX8_goes_40 rfl ?_
          refine v_getI hX eX8_goes_41 fi_X8_91 ⟨by decide, rfl⟩ ?_
          rw [y11]
          refine v_icmp_ge hX eX8_goes_44 (tgt := 76) rfl ⟨by omega, by omega⟩ ⟨by omega, by omega⟩ (fun c44 => ?_) (fun c44 => False.elim ((by omega)))
          exact v_return hX hR eX8_goes_76 rfl (fin)
        | succ m ihm =>
          intro q hq0 y my ty ry
          have y11 : y 44 11 = h 44 11 := my 44 11 (by omega) (by omega) (by omega)
          have hh := foldq_hits (f := fun q s => ext e lw (8 - (p + 1)) (setT t p q) s) (b := ((5 ^ k : Nat) : Int)) (fun q s => hitsA q s) q s
          have hm2 : ((q : Nat) : Int) * ((5 ^ k : Nat) : Int) + ((5 ^ k : Nat) : Int) ≤ 5 * ((5 ^ k : Nat) : Int) := by
            have := Int.mul_le_mul_of_nonneg_right (a := ((q : Int) + 1)) (b := 5) (c := ((5 ^ k : Nat) : Int)) (by omega) (by omega)
            rw [Int.add_mul, Int.one_mul] at this
            exact this
          have next : ∀ z, MS h z → (∀ i, i < p → z 60 i = t i) → R z (foldq (fun q s => ext e lw (8 - (p + 1)) (setT t p q) s) (q + 1) s) → VW X 70 [some (mA 44), some (mI p), some (mI q)] [] z := by
            intro z mz tz rz
            refine v_iinc hX eX8_goes_70 rfl rfl rfl ?_
            exact v_goto hX eX8_goes_73 (tgt := 39) rfl (ihm (q + 1) (by omega) z mz tz rz)
          have tyr : ∀ i, i < p → y 60 i = t i ∧ rng (t i) := fun i hi => ⟨ty i hi, by
            by_cases z : prF h i = true
            · have := pt.1 i hi z; omega
            · have := pt.2 i (by omega) (fun w => z w.2); omega⟩
          have ysr := my.sr
          by_cases hmay : mayP h t p q
          · have my2 : MS h (up y 60 p q) := fun a j h1 h2 h3 => by rw [up_ob h2]; exact my a j h1 h2 h3
            have ty2 : ∀ i, i < p + 1 → up y 60 p q 60 i = setT t p q i := fun i hi => by
              by_cases z : i = p
              · subst z; rw [up_same, setT, if_pos rfl]
              · rw [up_ne (fun w => z w.2), setT, if_neg z]; exact ty i (by omega)
            have ry2 := rel1 y (up y 60 p q) _ ry (fun j _ _ => up_ob (by decide)) (up_obf (by decide))
            have pt2 := pt.ext ⟨by omega, hpr⟩ (by omega) hmay
            have call := ih (p + 1) (by omega) d (up y 60 p q) (setT t p q) _ my2 pt2 ty2 ry2 (by omega)
            refine v_iload_n hX eX8_goes_39 rfl ?_
            refine v_aload_n hX eX8_goes_40 rfl ?_
            refine v_getI hX eX8_goes_41 fi_X8_91 ⟨by decide, rfl⟩ ?_
            rw [y11]
            refine v_icmp_ge hX eX8_goes_44 (tgt := 76) rfl ⟨by omega, by omega⟩ ⟨by omega, by omega⟩ (fun c44 => False.elim ((by omega))) (fun c44 => ?_)
            refine v_aload_n hX eX8_goes_47 rfl ?_
            refine v_iload_n hX eX8_goes_48 rfl ?_
            refine v_iload_n hX eX8_goes_49 rfl ?_
            refine v_fnV hX eX8_goes_50 lV_X8_220 ok_MX8_may ⟨by decide, rfl⟩ rfl ⟨rfl, Nat.le_of_ble_eq_true rfl⟩ (Nat.le_of_ble_eq_true rfl) (c_X8_may (ysr.ri hI) (ysr.rl hI r) (by rw [show y 1 = h 1 from my.ob (by decide) (by decide) (by decide)]; omega) (by rw [show y 1 = h 1 from my.ob (by decide) (by decide) (by decide)]; omega) tyr) rfl ?_
            try simp only [Int.toNat_natCast, Int.toNat_zero, Int.reduceToNat]
            refine v_ifB_eq hX eX8_goes_53 (tgt := 70) rfl (fun c53 => False.elim ((c53 ((mayP_ms my hI (by omega) (by omega)).mpr hmay)))) (fun c53 => ?_)
            refine v_aload_n hX eX8_goes_56 rfl ?_
            refine v_getA hX eX8_goes_57 fi_X8_56 ⟨by decide, rfl⟩ rfl ?_
            refine v_iload_n hX eX8_goes_60 rfl ?_
            refine v_iload_n hX eX8_goes_61 rfl ?_
            refine v_iast hX eX8_goes_62 (by first | exact ⟨by decide, rfl⟩ | exact hk | exact hk2 | exact AR_rk (by omega)) ⟨by omega, by omega⟩ ?_
            try simp only [Int.toNat_natCast, Int.toNat_zero, Int.reduceToNat]
            refine v_aload_n hX eX8_goes_63 rfl ?_
            refine v_iload_n hX eX8_goes_64 rfl ?_
            refine v_iconst hX eX8_goes_65 ?_
            refine v_iadd hX eX8_goes_66 ?_
            refine v_frV hX eX8_goes_67 lV_X8_216 ok_MX8_goes ⟨by decide, rfl⟩ rfl ⟨rfl, Nat.le_of_ble_eq_true rfl⟩ (Nat.le_of_ble_eq_true rfl) (call) rfl ?_
            rintro rr z ⟨rfl, mz, tz, rz⟩
            refine next z mz (fun i hi => by rw [tz i (by omega), setT, if_neg (by omega)]) ?_
            rw [foldq]; exact rz
          · have skip := next y my ty (by rw [foldq, show 8 - (p + 1) = 7 - p by omega, may_no ef hI ⟨by omega, hpr⟩ (by omega) pt hmay]; rw [show 8 - (p + 1) = 7 - p by omega] at ry; exact ry)
            refine v_iload_n hX eX8_goes_39 rfl ?_
            refine v_aload_n hX eX8_goes_40 rfl ?_
            refine v_getI hX eX8_goes_41 fi_X8_91 ⟨by decide, rfl⟩ ?_
            rw [y11]
            refine v_icmp_ge hX eX8_goes_44 (tgt := 76) rfl ⟨by omega, by omega⟩ ⟨by omega, by omega⟩ (fun c44 => False.elim ((by omega))) (fun c44 => ?_)
            refine v_aload_n hX eX8_goes_47 rfl ?_
            refine v_iload_n hX eX8_goes_48 rfl ?_
            refine v_iload_n hX eX8_goes_49 rfl ?_
            refine v_fnV hX eX8_goes_50 lV_X8_220 ok_MX8_may ⟨by decide, rfl⟩ rfl ⟨rfl, Nat.le_of_ble_eq_true rfl⟩ (Nat.le_of_ble_eq_true rfl) (c_X8_may (ysr.ri hI) (ysr.rl hI r) (by rw [show y 1 = h 1 from my.ob (by decide) (by decide) (by decide)]; omega) (by rw [show y 1 = h 1 from my.ob (by decide) (by decide) (by decide)]; omega) tyr) rfl ?_
            try simp only [Int.toNat_natCast, Int.toNat_zero, Int.reduceToNat]
            refine v_ifB_eq hX eX8_goes_53 (tgt := 70) rfl (fun c53 => ?_) (fun c53 => False.elim ((hmay ((mayP_ms my hI (by omega) (by omega)).mp c53))))
            exact skip
      show VW X 0 [some (mA 44), some (mI p), none] [] x
      refine v_iload_n hX eX8_goes_0 rfl ?_
      refine v_aload_n hX eX8_goes_1 rfl ?_
      refine v_getI hX eX8_goes_2 fi_X8_84 ⟨by decide, rfl⟩ ?_
      rw [x1]
      refine v_icmp_ne hX eX8_goes_5 (tgt := 13) rfl ⟨by omega, by omega⟩ ⟨by omega, by omega⟩ (fun c5 => ?_) (fun c5 => False.elim ((by omega)))
      refine v_aload_n hX eX8_goes_13 rfl ?_
      refine v_getA hX eX8_goes_14 fi_X8_13 ⟨by decide, rfl⟩ rfl ?_
      refine v_iload_n hX eX8_goes_17 rfl ?_
      refine v_zald hX eX8_goes_18 (by first | exact ⟨by decide, rfl⟩ | exact hk | exact hk2 | exact AR_rk (by omega)) ⟨by omega, by omega⟩ ?_
      try simp only [Int.toNat_natCast, Int.toNat_zero, Int.reduceToNat]
      rw [x46, h61]
      refine v_if_ne hX eX8_goes_19 (tgt := 37) rfl ⟨by omega, by omega⟩ (fun c19 => ?_) (fun c19 => False.elim ((by omega)))
      refine v_iconst hX eX8_goes_37 ?_
      refine v_istore_n hX eX8_goes_38 rfl rfl ?_
      exact loop (h 1 4).toNat 0 (by omega) x mx ht hr
    · have h60 : h (23 + p) 6 = 0 := by
        rcases h6 with z | z
        · exact z
        · exact absurd (by simp [prF, z]) hpr
      have ip : isP e p = false := by rw [ef.2.1]; simp [hpr]
      have exq : ext e lw (8 - p) t s = ext e lw (8 - (p + 1)) t s := by
        rw [ee, ext, e7, if_neg (by rw [ip]; exact fun z => by cases z)]
      have tm : t p = -1 := pt.2 p (by omega) (fun z => hpr z.2)
      have my2 : MS h (up x 60 p (-1)) := fun a j h1 h2 h3 => by rw [up_ob h2]; exact mx a j h1 h2 h3
      have ty2 : ∀ i, i < p + 1 → up x 60 p (-1) 60 i = t i := fun i hi => by
        by_cases z : i = p
        · subst z; rw [up_same, tm]
        · rw [up_ne (fun w => z w.2)]; exact ht i (by omega)
      have ry2 := rel1 x (up x 60 p (-1)) _ hr (fun j _ _ => up_ob (by decide)) (up_obf (by decide))
      have call := ih (p + 1) (by omega) d (up x 60 p (-1)) t s my2 (pt.skip hpr) ty2 ry2 (by omega)
      show VW X 0 [some (mA 44), some (mI p), none] [] x
      refine v_iload_n hX eX8_goes_0 rfl ?_
      refine v_aload_n hX eX8_goes_1 rfl ?_
      refine v_getI hX eX8_goes_2 fi_X8_84 ⟨by decide, rfl⟩ ?_
      rw [x1]
      refine v_icmp_ne hX eX8_goes_5 (tgt := 13) rfl ⟨by omega, by omega⟩ ⟨by omega, by omega⟩ (fun c5 => ?_) (fun c5 => False.elim ((by omega)))
      refine v_aload_n hX eX8_goes_13 rfl ?_
      refine v_getA hX eX8_goes_14 fi_X8_13 ⟨by decide, rfl⟩ rfl ?_
      refine v_iload_n hX eX8_goes_17 rfl ?_
      refine v_zald hX eX8_goes_18 (by first | exact ⟨by decide, rfl⟩ | exact hk | exact hk2 | exact AR_rk (by omega)) ⟨by omega, by omega⟩ ?_
      try simp only [Int.toNat_natCast, Int.toNat_zero, Int.reduceToNat]
      rw [x46, h60]
      refine v_if_ne hX eX8_goes_19 (tgt := 37) rfl ⟨by omega, by omega⟩ (fun c19 => False.elim ((c19 rfl))) (fun c19 => ?_)
      refine v_aload_n hX eX8_goes_22 rfl ?_
      refine v_getA hX eX8_goes_23 fi_X8_56 ⟨by decide, rfl⟩ rfl ?_
      refine v_iload_n hX eX8_goes_26 rfl ?_
      refine v_iconst hX eX8_goes_27 ?_
      refine v_iast hX eX8_goes_28 (by first | exact ⟨by decide, rfl⟩ | exact hk | exact hk2 | exact AR_rk (by omega)) ⟨by omega, by omega⟩ ?_
      try simp only [Int.toNat_natCast, Int.toNat_zero, Int.reduceToNat]
      refine v_aload_n hX eX8_goes_29 rfl ?_
      refine v_iload_n hX eX8_goes_30 rfl ?_
      refine v_iconst hX eX8_goes_31 ?_
      refine v_iadd hX eX8_goes_32 ?_
      refine v_frV hX eX8_goes_33 lV_X8_216 ok_MX8_goes ⟨by decide, rfl⟩ rfl ⟨rfl, Nat.le_of_ble_eq_true rfl⟩ (Nat.le_of_ble_eq_true rfl) (call) rfl ?_
      rintro rr z ⟨rfl, mz, tz, rz⟩
      exact v_return hX hR eX8_goes_36 rfl (hq _ _ ⟨rfl, mz, fun i hi => tz i (by omega), by rw [exq]; exact rz⟩)
