/-! the model's search from its start -/
theorem alw_sr {h x : Hp} (s : SR h x) (hI : RI h) {q g : Nat} (hq : q < 5) : alw x q g ↔ alw h q g := by
  have hn := hI.n
  have e1 : x 1 = h 1 := s.1 1 (by omega)
  have e2 : x (39 + q) = h (39 + q) := s.1 (39 + q) (by omega)
  have ec : ∀ b, cntF (hasF x g b) (h 1 3).toNat = cntF (hasF h g b) (h 1 3).toNat := fun b => cntF_congr _ (fun i hi => by
    rw [hasF, hasF, skB, skB, s.1 (23 + i) (by omega)])
  have gh : ∀ f, ghas x f q g ↔ ghas h f q g := fun f => by
    unfold ghas tks rtw lkl lks neB rtw
    rw [e1, e2]
    simp only [ec]
  have ea : ∀ p, p < (h 1 3).toNat → ∀ b, apB x p b = apB h p b := fun p hp b => by
    unfold apB
    rw [s.1 (23 + p) (by omega)]
  unfold alw
  rw [e1]
  constructor
  · rintro ⟨a, b⟩
    exact ⟨fun f h1 h2 z => a f h1 h2 ((gh f).mpr z), fun p hp h1 c h2 h3 => b p hp h1 c h2 (by rw [ea p hp]; exact h3)⟩
  · rintro ⟨a, b⟩
    exact ⟨fun f h1 h2 z => a f h1 h2 ((gh f).mp z), fun p hp h1 c h2 h3 => b p hp h1 c h2 (by rw [← ea p hp]; exact h3)⟩
theorem fitN_sr {h x : Hp} (s : SR h x) (hI : RI h) (g : Nat) : fitN x g = fitN h g := by
  have hn := hI.n
  have hm := hI.q
  have e1 : x 1 = h 1 := s.1 1 (by omega)
  have ep : bs (prF x) (h 1 3).toNat = bs (prF h) (h 1 3).toNat := bs_congr _ (fun i hi => by rw [prF, prF, s.1 (23 + i) (by omega)])
  have ea : bs (fun q => pb (alw x q g)) (h 1 4).toNat = bs (fun q => pb (alw h q g)) (h 1 4).toNat := bs_congr _ (fun i hi => by
    show pb (alw x i g) = pb (alw h i g)
    rw [propext (alw_sr s hI (q := i) (g := g) (by omega))])
  unfold fitN
  rw [e1, ep, ea]
theorem EFH.sr {e h x : Hp} (ef : EFH e h) (s : SR h x) (hI : RI h) : EFH e x := by
  have hn := hI.n
  have e1 : x 1 = h 1 := s.1 1 (by omega)
  refine ⟨by rw [e1]; exact ef.1, fun p => ?_, fun g hg => by rw [fitN_sr s hI]; exact ef.2.2 g hg⟩
  rw [ef.2.1, e1]
  by_cases z : p < (h 1 3).toNat
  · rw [prF, prF, s.1 (23 + p) (by omega)]
  · simp [z]
/-- the roll beside e, and THE PLAN -/
def HYR (h e : Hp) : Prop := RI h ∧ RLr h ∧ LDI h ∧ (∀ a, a < (h 1 3).toNat → apB h a a = false) ∧ EFH e h ∧ P50 h
theorem HYR.sr {h e x : Hp} (y : HYR h e) (s : SR h x) (h50 : x 50 = h 50) : HYR x e := by
  obtain ⟨hI, r, hl, ap, ef, pq⟩ := y
  have hn := hI.n
  have hm := hI.q
  have e1 : x 1 = h 1 := s.1 1 (by omega)
  refine ⟨s.ri hI, s.rl hI r, fun q hq h3 => ?_, fun a ha => ?_, ef.sr s hI, fun p hp => ?_⟩
  · rw [e1] at hq
    have e2 : x (39 + q) = h (39 + q) := s.1 (39 + q) (by omega)
    rw [e2] at h3 ⊢
    rw [e1]
    exact hl q hq h3
  · rw [e1] at ha
    unfold apB
    rw [s.1 (23 + a) (by omega)]
    exact ap a ha
  · rw [e1] at hp
    rw [h50]
    exact pq p hp
abbrev FAR : Int := 268435456
def alH (g : Hp) (a : Int) : Hp := up (up (up g 44 28 a) 44 23 0) 44 27 FAR
theorem alH_ne {g : Hp} {a : Int} {k j : Nat} (h : ¬ (k = 44 ∧ (j = 28 ∨ j = 23 ∨ j = 27))) : alH g a k j = g k j := by
  unfold alH
  rw [up_ne (by omega), up_ne (by omega), up_ne (by omega)]
theorem alH_ob {g : Hp} {a : Int} {k : Nat} (h : k ≠ 44) : alH g a k = g k := funext fun j => alH_ne (fun z => h z.1)
theorem alH_sr {g : Hp} {a : Int} : SR g (alH g a) := ⟨fun k hk => alH_ob (by omega), fun k hk => alH_ob (by omega), alH_ne (by omega), alH_ne (by omega)⟩
theorem alH_28 {g : Hp} {a : Int} : alH g a 44 28 = a := by unfold alH; rw [up_ne (by omega), up_ne (by omega), up_same]
theorem alH_23 {g : Hp} {a : Int} : alH g a 44 23 = 0 := by unfold alH; rw [up_ne (by omega), up_same]
theorem alH_27 {g : Hp} {a : Int} : alH g a 44 27 = FAR := by unfold alH; rw [up_same]
theorem HYP_all {g e : Hp} {P : SP} {a : Int} (y : HYR g e) (v : PV P g) (ha : 0 ≤ a ∧ a ≤ 3) : HYP (alH g a) e P := by
  obtain ⟨hI, r, hl, ap, ef, pq⟩ := y.sr (alH_sr (g := g) (a := a)) (alH_ob (by decide))
  exact ⟨hI, r, hl, v.congr (alH_ne (by omega)) (fun k hk => alH_ob (by omega)), ap, ef, pq, by rw [alH_28]; exact ha⟩
theorem PTH_0 {h : Hp} {t : Nat → Int} (ht : ∀ j, j < 8 → t j = -1) : PTH h t 0 := ⟨fun j hj => absurd hj (Nat.not_lt_zero _), fun j hj _ => ht j hj⟩
set_option maxHeartbeats 2000000 in
set_option maxRecDepth 20000 in
theorem c_X8_all {d : Nat} {g e : Hp} {P : SP} {lw a : Int} {R : Hp → SGT → Prop} {t : Nat → Int} {s : SGT} (y0 : HYP (alH g a) e P) (rel : RELS (alH g a) e P lw R) (ht : ∀ j, j < 8 → t j = -1) (hr : R (alH g a) s) (h0 : s.2.2.1 = 0) : Fr (d + 14) MX8_all [mA 44, mI a] g (fun r y => r = none ∧ MS (alH g a) y ∧ R y (ext e lw 8 t s)) := by
  intro Q hq X hX hR
  have hn := y0.1.n
  have hb : ((5 ^ (alH g a 1 3).toNat : Nat) : Int) ≤ 390625 := by
    have := Nat.pow_le_pow_right (n := 5) (by decide) (show (alH g a 1 3).toNat ≤ 8 by omega)
    exact Int.ofNat_le.mpr (Nat.le_trans this (by decide))
  have call := c_X8_goes y0 rel (alH g a 1 3).toNat 0 (by omega) (d + (8 - (alH g a 1 3).toNat)) (alH g a) t s MS.rf (PTH_0 ht) (fun i hi => absurd hi (Nat.not_lt_zero _)) hr (by omega)
  rw [show d + (8 - (alH g a 1 3).toNat) + (alH g a 1 3).toNat + 5 = d + 13 by omega] at call
  show VW X 0 [some (mA 44), some (mI a)] [] g
  refine v_aload_n hX eX8_all_0 rfl ?_
  refine v_iload_n hX eX8_all_1 rfl ?_
  refine v_putI hX eX8_all_2 fi_X8_194 ⟨by decide, rfl⟩ ?_
  refine v_aload_n hX eX8_all_5 rfl ?_
  refine v_iconst hX eX8_all_6 ?_
  refine v_putI hX eX8_all_7 fi_X8_200 ⟨by decide, rfl⟩ ?_
  refine v_aload_n hX eX8_all_10 rfl ?_
  refine v_ldc (z := 268435456) hX eX8_all_11 k_X8_223 (by decide) ?_
  refine v_putI hX eX8_all_13 fi_X8_207 ⟨by decide, rfl⟩ ?_
  refine v_aload_n hX eX8_all_16 rfl ?_
  refine v_iconst hX eX8_all_17 ?_
  show VW X 18 _ [mI ((0 : Nat) : Int), mA 44] (alH g a)
  refine v_frV hX eX8_all_18 lV_X8_216 ok_MX8_goes ⟨by decide, rfl⟩ rfl ⟨rfl, Nat.le_of_ble_eq_true rfl⟩ (Nat.le_of_ble_eq_true rfl) (call) rfl ?_
  rintro rr y ⟨rfl, my, _, ry⟩
  exact v_return hX hR eX8_all_21 rfl (hq _ _ ⟨rfl, my, ry⟩)
