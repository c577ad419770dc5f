/-! the model's best, plans, change -/
theorem TKx.n {y x : Hp} {n : Nat} (k : TKx y n x) {a : Nat} (h : a ≠ 50) : x a = y a := funext fun j => k.1 a j (fun z => h z.1)
/-- the best of all by the model: found or not, and THE PLAN then -/
def BSx (g e : Hp) (P : SP) (mvc : Nat → Int → Bool) (a : Int) (s : SGT) (y : Hp) : Prop := MS (alH g a) y ∧ REL2 (alH g a) e P mvc y s
set_option maxHeartbeats 2000000 in
set_option maxRecDepth 20000 in
theorem c_X8_best {d : Nat} {h g e : Hp} {P : SP} {pl : Nat → Nat} {t : Nat → Int} {f : Nat → Int} (hg : up h 44 0 0 = g) (y : HYR g e) (v : PV P g) (hE : ENV e) (c : CEN e P mv0 pl) (ht : ∀ j, j < 8 → t j = -1) :
    Fr (d + 15) MX8_best [mA 44] h (fun r x => ∃ y, BSx g e P mv0 2 (ext e 1 8 t (ABV, ABV, 0, f)) y ∧ ((y 44 23 = 0 ∧ r = some (mI 0) ∧ x = y) ∨ (y 44 23 = 1 ∧ r = some (mI 1) ∧ TKx y (g 1 3).toNat x))) := by
  intro Q hq X hX hR
  have hn := y.1.n
  have en := y.2.1.n
  have v1 := v.1
  have y0 := HYP_all (a := 2) y v (by omega)
  have rel := REL2_ok (pl := pl) y0 hE c (by rw [alH_28]; decide) (fun t w => by rw [mvT0, mvs, if_neg (by rw [alH_28]; decide)])
  have r0 : REL2 (alH g 2) e P mv0 (alH g 2) (ABV, ABV, 0, f) := ⟨by rw [alH_27]; decide, Or.inl ⟨alH_23, rfl, rfl, rfl⟩⟩
  have call := c_X8_all (d := d) y0 rel ht r0 rfl
  show VW X 0 [some (mA 44)] [] h
  refine v_aload_n hX eX8_best_0 rfl ?_
  refine v_iconst hX eX8_best_1 ?_
  refine v_putI hX eX8_best_2 fi_X8_80 ⟨by decide, rfl⟩ ?_
  rw [hg]
  refine v_aload_n hX eX8_best_5 rfl ?_
  refine v_iconst hX eX8_best_6 ?_
  refine v_frV hX eX8_best_7 lV_X8_224 ok_MX8_all ⟨by decide, rfl⟩ rfl ⟨rfl, Nat.le_of_ble_eq_true rfl⟩ (Nat.le_of_ble_eq_true rfl) (call) rfl ?_
  rintro rr y ⟨rfl, my, ry⟩
  have y1 : y 44 1 = g 1 3 := by rw [my 44 1 (by omega) (by omega) (by omega), alH_ne (by omega)]; exact en
  have y23 : y 44 23 = 0 ∨ y 44 23 = 1 := ry.2.elim (fun z => Or.inl z.1) (fun z => Or.inr z.1)
  show VW X 10 _ [] y
  refine v_aload_n hX eX8_best_10 rfl ?_
  refine v_getI hX eX8_best_11 fi_X8_200 ⟨by decide, rfl⟩ ?_
  refine v_if_le hX eX8_best_14 (tgt := 21) rfl ⟨by omega, by omega⟩ (fun c14 => ?_) (fun c14 => ?_)
  · refine v_aload_n hX eX8_best_21 rfl ?_
    refine v_getI hX eX8_best_22 fi_X8_200 ⟨by decide, rfl⟩ ?_
    exact v_ireturn hX hR eX8_best_25 rfl (hq _ _ ⟨y, ⟨my, ry⟩, Or.inl ⟨by omega, by rw [y23.resolve_right (by omega)], rfl⟩⟩)
  · refine v_aload_n hX eX8_best_17 rfl ?_
    refine v_frV hX eX8_best_18 lV_X8_227 ok_MX8_takes ⟨by decide, rfl⟩ rfl ⟨rfl, Nat.le_of_ble_eq_true rfl⟩ (Nat.le_of_ble_eq_true rfl) (c_X8_takes (by rw [y1]; exact hn)) rfl ?_
    rintro rr x ⟨rfl, tk⟩
    have x23 : x 44 23 = y 44 23 := by rw [tk.n (by decide)]
    rw [y1] at tk
    show VW X 21 _ [] x
    refine v_aload_n hX eX8_best_21 rfl ?_
    refine v_getI hX eX8_best_22 fi_X8_200 ⟨by decide, rfl⟩ ?_
    exact v_ireturn hX hR eX8_best_25 rfl (hq _ _ ⟨y, ⟨my, ry⟩, Or.inr ⟨by omega, by rw [x23, y23.resolve_left (by omega)], tk⟩⟩)
set_option maxHeartbeats 2000000 in
set_option maxRecDepth 20000 in
theorem c_X8_plans0 {d : Nat} {h g e : Hp} {P : SP} {t : Nat → Int} {f : Nat → Int} (hg : up h 44 0 0 = g) (y : HYR g e) (hpq : PQ g) (v : PV P g) (hE : ENV e) (ht : ∀ j, j < 8 → t j = -1) :
    Fr (d + 15) MX8_plans [mA 44, mI 0] h (fun r x => r = some (mI (ext e 0 8 t (ABV, ABV, 0, f)).2.2.1) ∧ ∃ g1, KPx P g 50 (g 4) g1 ∧ MS (alH g1 0) x) := by
  intro Q hq X hX hR
  have hn := y.1.n
  have hm := y.1.q
  have en := y.2.1.n
  have v1 := v.1
  have pn : P.n = (g 1 3).toNat := by omega
  have tv : TV 50 (g 4) P.n g := fun p hp => by have := hpq p (by omega); exact ⟨this.1, by omega⟩
  show VW X 0 [some (mA 44), some (mI 0)] [] h
  refine v_aload_n hX eX8_plans_0 rfl ?_
  refine v_iconst hX eX8_plans_1 ?_
  refine v_putI hX eX8_plans_2 fi_X8_80 ⟨by decide, rfl⟩ ?_
  rw [hg]
  refine v_iload_n hX eX8_plans_5 rfl ?_
  refine v_i2l hX eX8_plans_6 ⟨by omega, by omega⟩ ?_
  refine v_lconst (z := 0) hX eX8_plans_7 (by decide) ?_
  refine v_lconst (z := 1) hX eX8_plans_8 (by decide) ?_
  refine v_fnS hX eX8_plans_9 lS_X8_87 ok_MX8_in ⟨rfl, Nat.le_of_ble_eq_true rfl⟩ (Nat.le_of_ble_eq_true rfl) (c_X8_in ⟨by decide, by decide⟩ ⟨by decide, by decide⟩ ⟨by decide, by decide⟩) rfl ?_
  try simp only [Int.toNat_natCast, Int.toNat_zero, Int.reduceToNat]
  refine v_ifB_ne hX eX8_plans_12 (tgt := 17) rfl (fun c12 => ?_) (fun c12 => False.elim ((c12 (by decide))))
  refine v_aload_n hX eX8_plans_17 rfl ?_
  refine v_aload_n hX eX8_plans_18 rfl ?_
  refine v_getA hX eX8_plans_19 fi_X8_26 ⟨by decide, rfl⟩ rfl ?_
  refine v_frV hX eX8_plans_22 lV_X8_210 ok_MX8_keeps ⟨by decide, rfl⟩ rfl ⟨rfl, Nat.le_of_ble_eq_true rfl⟩ (Nat.le_of_ble_eq_true rfl) (c_X8_keeps (P := P) v ⟨by decide, rfl⟩ (by decide) tv) rfl ?_
  rintro rr g1 ⟨rfl, kp⟩
  obtain ⟨k1, k2, k3, k4, k5, k6⟩ := id kp
  have ko : ∀ a, a ≠ 44 → a ≠ 61 → g1 a = g a := fun a h1 h2 => funext fun j => k1 a j (fun z => h1 z.1) h2
  have ksr : SR g g1 := ⟨fun k hk => ko k (by omega) (by omega), fun k hk => ko k (by omega) (by omega), k1 44 1 (by omega) (by omega), k1 44 11 (by omega) (by omega)⟩
  have ky := y.sr ksr (ko 50 (by decide) (by decide))
  have kv : PV P g1 := v.congr (k1 44 1 (by omega) (by omega)) (fun k hk => ko k (by omega) (by omega))
  have y0 := HYP_all (a := 0) ky kv (by omega)
  have rel := REL0_ok y0 hE alH_28
  have mr := marks_rng v (g 4)
  have r0 : REL0 (alH g1 0) (ABV, ABV, 0, f) := ⟨alH_23, rfl, rfl, by rw [alH_27]; decide⟩
  have call := c_X8_all (d := d) y0 rel ht r0 rfl
  show VW X 25 _ [] g1
  refine v_aload_n hX eX8_plans_25 rfl ?_
  refine v_iload_n hX eX8_plans_26 rfl ?_
  refine v_frV hX eX8_plans_27 lV_X8_224 ok_MX8_all ⟨by decide, rfl⟩ rfl ⟨rfl, Nat.le_of_ble_eq_true rfl⟩ (Nat.le_of_ble_eq_true rfl) (call) rfl ?_
  rintro rr x ⟨rfl, mx, rx⟩
  show VW X 30 _ [] x
  refine v_aload_n hX eX8_plans_30 rfl ?_
  refine v_getI hX eX8_plans_31 fi_X8_200 ⟨by decide, rfl⟩ ?_
  exact v_ireturn hX hR eX8_plans_34 rfl (hq _ _ ⟨by rw [rx.1], g1, kp, mx⟩)
set_option maxHeartbeats 2000000 in
set_option maxRecDepth 20000 in
theorem c_X8_plans1 {d : Nat} {h g e : Hp} {P : SP} {pl : Nat → Nat} {t : Nat → Int} {f : Nat → Int} (hg : up h 44 0 0 = g) (y : HYR g e) (hpq : PQ g) (v : PV P g) (hE : ENV e) (c : CEN e P mv0 pl) (ht : ∀ j, j < 8 → t j = -1) :
    Fr (d + 15) MX8_plans [mA 44, mI 1] h (fun r x => r = some (mI (ext e 0 8 t (cU2 e (g 4) 8, lU e (g 4) 8, 0, f)).2.2.1) ∧ ∃ g1, KPx P g 50 (g 4) g1 ∧ MS (alH g1 1) x) := by
  intro Q hq X hX hR
  have hn := y.1.n
  have hm := y.1.q
  have en := y.2.1.n
  have v1 := v.1
  have pn : P.n = (g 1 3).toNat := by omega
  have tv : TV 50 (g 4) P.n g := fun p hp => by have := hpq p (by omega); exact ⟨this.1, by omega⟩
  have tr : TR P.n (e 2 7) (g 4) := fun p hp => by rw [y.2.2.2.2.1.1]; have := hpq p (by omega); omega
  show VW X 0 [some (mA 44), some (mI 1)] [] h
  refine v_aload_n hX eX8_plans_0 rfl ?_
  refine v_iconst hX eX8_plans_1 ?_
  refine v_putI hX eX8_plans_2 fi_X8_80 ⟨by decide, rfl⟩ ?_
  rw [hg]
  refine v_iload_n hX eX8_plans_5 rfl ?_
  refine v_i2l hX eX8_plans_6 ⟨by omega, by omega⟩ ?_
  refine v_lconst (z := 0) hX eX8_plans_7 (by decide) ?_
  refine v_lconst (z := 1) hX eX8_plans_8 (by decide) ?_
  refine v_fnS hX eX8_plans_9 lS_X8_87 ok_MX8_in ⟨rfl, Nat.le_of_ble_eq_true rfl⟩ (Nat.le_of_ble_eq_true rfl) (c_X8_in ⟨by decide, by decide⟩ ⟨by decide, by decide⟩ ⟨by decide, by decide⟩) rfl ?_
  try simp only [Int.toNat_natCast, Int.toNat_zero, Int.reduceToNat]
  refine v_ifB_ne hX eX8_plans_12 (tgt := 17) rfl (fun c12 => ?_) (fun c12 => False.elim ((c12 (by decide))))
  refine v_aload_n hX eX8_plans_17 rfl ?_
  refine v_aload_n hX eX8_plans_18 rfl ?_
  refine v_getA hX eX8_plans_19 fi_X8_26 ⟨by decide, rfl⟩ rfl ?_
  refine v_frV hX eX8_plans_22 lV_X8_210 ok_MX8_keeps ⟨by decide, rfl⟩ rfl ⟨rfl, Nat.le_of_ble_eq_true rfl⟩ (Nat.le_of_ble_eq_true rfl) (c_X8_keeps (P := P) v ⟨by decide, rfl⟩ (by decide) tv) rfl ?_
  rintro rr g1 ⟨rfl, kp⟩
  obtain ⟨k1, k2, k3, k4, k5, k6⟩ := id kp
  have ko : ∀ a, a ≠ 44 → a ≠ 61 → g1 a = g a := fun a h1 h2 => funext fun j => k1 a j (fun z => h1 z.1) h2
  have ksr : SR g g1 := ⟨fun k hk => ko k (by omega) (by omega), fun k hk => ko k (by omega) (by omega), k1 44 1 (by omega) (by omega), k1 44 11 (by omega) (by omega)⟩
  have ky := y.sr ksr (ko 50 (by decide) (by decide))
  have kv : PV P g1 := v.congr (k1 44 1 (by omega) (by omega)) (fun k hk => ko k (by omega) (by omega))
  have y0 := HYP_all (a := 1) ky kv (by omega)
  have rel := REL1_ok (pl := pl) y0 hE c tr alH_28
  have mr := marks_rng v (g 4)
  have r0 : REL1 e P (g 4) (alH g1 1) (cU2 e (g 4) 8, lU e (g 4) 8, 0, f) := ⟨alH_23, rfl, rfl, by rw [alH_ne (by omega), k2], by rw [alH_ne (by omega), k3], by rw [alH_ne (by omega), k4], by rw [alH_27]; decide, fun p hp => by rw [alH_ob (by decide), k5 p (by omega), (tv p hp).1]⟩
  have call := c_X8_all (d := d) y0 rel ht r0 rfl
  show VW X 25 _ [] g1
  refine v_aload_n hX eX8_plans_25 rfl ?_
  refine v_iload_n hX eX8_plans_26 rfl ?_
  refine v_frV hX eX8_plans_27 lV_X8_224 ok_MX8_all ⟨by decide, rfl⟩ rfl ⟨rfl, Nat.le_of_ble_eq_true rfl⟩ (Nat.le_of_ble_eq_true rfl) (call) rfl ?_
  rintro rr x ⟨rfl, mx, rx⟩
  show VW X 30 _ [] x
  refine v_aload_n hX eX8_plans_30 rfl ?_
  refine v_getI hX eX8_plans_31 fi_X8_200 ⟨by decide, rfl⟩ ?_
  exact v_ireturn hX hR eX8_plans_34 rfl (hq _ _ ⟨by rw [rx.1], g1, kp, mx⟩)
set_option maxHeartbeats 2000000 in
set_option maxRecDepth 20000 in
theorem c_X8_plans_N {d : Nat} {h g : Hp} {w : Int} (hg : up h 44 0 0 = g) (hw : rng w) (bad : ¬ (w = 0 ∨ w = 1)) : Fn (d + 1) MX8_plans [mA 44, mI w] h (some (mI (-1))) g := by
  intro Q hq X hX hR
  show VW X 0 [some (mA 44), some (mI w)] [] h
  refine v_aload_n hX eX8_plans_0 rfl ?_
  refine v_iconst hX eX8_plans_1 ?_
  refine v_putI hX eX8_plans_2 fi_X8_80 ⟨by decide, rfl⟩ ?_
  rw [hg]
  refine v_iload_n hX eX8_plans_5 rfl ?_
  refine v_i2l hX eX8_plans_6 ⟨by omega, by omega⟩ ?_
  refine v_lconst (z := 0) hX eX8_plans_7 (by decide) ?_
  refine v_lconst (z := 1) hX eX8_plans_8 (by decide) ?_
  refine v_fnS hX eX8_plans_9 lS_X8_87 ok_MX8_in ⟨rfl, Nat.le_of_ble_eq_true rfl⟩ (Nat.le_of_ble_eq_true rfl) (c_X8_in ⟨by omega, by omega⟩ ⟨by decide, by decide⟩ ⟨by decide, by decide⟩) rfl ?_
  try simp only [Int.toNat_natCast, Int.toNat_zero, Int.reduceToNat]
  refine v_ifB_ne hX eX8_plans_12 (tgt := 17) rfl (fun c12 => False.elim ((bad (by omega)))) (fun c12 => ?_)
  refine v_iconst hX eX8_plans_15 ?_
  exact v_ireturn hX hR eX8_plans_16 rfl (hq)
/-- a PUPIL that moves -/
def mvC (pl : Nat → Int) : Nat → Int → Bool := fun p c => decide (0 ≤ c) && (decide (0 ≤ pl p) && decide (pl p ≠ c))
set_option maxHeartbeats 2000000 in
set_option maxRecDepth 20000 in
theorem c_X8_change {d : Nat} {h g e : Hp} {P : SP} {pl : Nat → Nat} {t : Nat → Int} {f : Nat → Int} (hg : up h 44 0 0 = g) (y : HYR g e) (v : PV P g) (hE : ENV e) (c : CEN e P (mvC (g 50)) pl) (ht : ∀ j, j < 8 → t j = -1) :
    Fr (d + 15) MX8_change [mA 44] h (fun r x => ∃ y, BSx g e P (mvC (g 50)) 3 (ext e 1 8 t (ABV, ABV, 0, f)) y ∧ ((y 44 23 = 0 ∧ r = some (mI (-1)) ∧ x = y) ∨ (y 44 23 = 1 ∧ r = some (mI (y 44 27)) ∧ TKx y (g 1 3).toNat x))) := by
  intro Q hq X hX hR
  have hn := y.1.n
  have en := y.2.1.n
  have v1 := v.1
  have pn : P.n = (g 1 3).toNat := by omega
  have y0 := HYP_all (a := 3) y v (by omega)
  have e1 : alH g 3 1 = g 1 := alH_ob (by decide)
  have rel := REL2_ok (pl := pl) (mvc := mvC (g 50)) y0 hE c (by rw [alH_28]; decide) (fun t w => by
    rw [mvs, if_pos alH_28, mvT, alH_ob (by decide), cntF_congr P.n (fun i hi => ?_)]
    have ef := y0.2.2.2.2.2.1.2.1 i
    rw [e1, c.2.1 i] at ef
    simp only [show i < (g 1 3).toNat by omega, show i < P.n by omega, decide_true, Bool.true_and] at ef
    unfold mvM mvC
    by_cases z : P.pr i = true
    · have := w.1 i (by rw [e1]; omega) (by rw [← ef]; exact z)
      simp [z, this.1]
    · simp [z])
  have r0 : REL2 (alH g 3) e P (mvC (g 50)) (alH g 3) (ABV, ABV, 0, f) := ⟨by rw [alH_27]; decide, Or.inl ⟨alH_23, rfl, rfl, rfl⟩⟩
  have call := c_X8_all (d := d) y0 rel ht r0 rfl
  show VW X 0 [some (mA 44)] [] h
  refine v_aload_n hX eX8_change_0 rfl ?_
  refine v_iconst hX eX8_change_1 ?_
  refine v_putI hX eX8_change_2 fi_X8_80 ⟨by decide, rfl⟩ ?_
  rw [hg]
  refine v_aload_n hX eX8_change_5 rfl ?_
  refine v_iconst hX eX8_change_6 ?_
  refine v_frV hX eX8_change_7 lV_X8_224 ok_MX8_all ⟨by decide, rfl⟩ rfl ⟨rfl, Nat.le_of_ble_eq_true rfl⟩ (Nat.le_of_ble_eq_true rfl) (call) rfl ?_
  rintro rr y ⟨rfl, my, ry⟩
  have y1 : y 44 1 = g 1 3 := by rw [my 44 1 (by omega) (by omega) (by omega), alH_ne (by omega)]; exact en
  have y23 : y 44 23 = 0 ∨ y 44 23 = 1 := ry.2.elim (fun z => Or.inl z.1) (fun z => Or.inr z.1)
  show VW X 10 _ [] y
  refine v_aload_n hX eX8_change_10 rfl ?_
  refine v_getI hX eX8_change_11 fi_X8_200 ⟨by decide, rfl⟩ ?_
  refine v_if_ne hX eX8_change_14 (tgt := 19) rfl ⟨by omega, by omega⟩ (fun c14 => ?_) (fun c14 => ?_)
  · refine v_aload_n hX eX8_change_19 rfl ?_
    refine v_frV hX eX8_change_20 lV_X8_227 ok_MX8_takes ⟨by decide, rfl⟩ rfl ⟨rfl, Nat.le_of_ble_eq_true rfl⟩ (Nat.le_of_ble_eq_true rfl) (c_X8_takes (by rw [y1]; exact hn)) rfl ?_
    rintro rr x ⟨rfl, tk⟩
    have x27 : x 44 27 = y 44 27 := by rw [tk.n (by decide)]
    rw [y1] at tk
    show VW X 23 _ [] x
    refine v_aload_n hX eX8_change_23 rfl ?_
    refine v_getI hX eX8_change_24 fi_X8_207 ⟨by decide, rfl⟩ ?_
    exact v_ireturn hX hR eX8_change_27 rfl (hq _ _ ⟨y, ⟨my, ry⟩, Or.inr ⟨by omega, by rw [x27], tk⟩⟩)
  · refine v_iconst hX eX8_change_17 ?_
    exact v_ireturn hX hR eX8_change_18 rfl (hq _ _ ⟨y, ⟨my, ry⟩, Or.inl ⟨by omega, rfl, rfl⟩⟩)
