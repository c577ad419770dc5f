/-! the law's own methods: of, row -/
theorem ofV_rng {h : Hp} (hI : RI h) (hL : PLI h) (o : OPM h) {p : Nat} (hp : p < (h 1 3).toNat) (w : Int) : rng (ofV h p w) := by
  have hn := hI.n
  obtain ⟨u1, u2, u3, u4, u5, u6, u7⟩ := hI.pu (p := p) (by omega)
  have rr := rkI_rng hI (p := p) (by omega) (h 4 p)
  have h4 := hL p (by omega)
  have pk := plc_ok o hp
  unfold ofV
  repeat' split
  all_goals (constructor <;> omega)
theorem ofV_o {h x : Hp} {p : Nat} {w : Int} (hp : p < 8) (e : ∀ a, a ≠ 44 → a ≠ 68 → x a = h a) : ofV x p w = ofV h p w := by
  unfold ofV rkI plc
  rw [e (23 + p) (by omega) (by omega), e 4 (by omega) (by omega), e (31 + p) (by omega) (by omega), e 10 (by omega) (by omega), e 1 (by omega) (by omega)]
theorem REL.o68 {h : Hp} (g : REL h) {v : Int} : REL (up h 68 0 v) := by
  obtain ⟨⟨g1, g2, g3, g5, g6⟩, g4⟩ := g
  have o : ∀ a, a ≠ 68 → up h 68 0 v a = h a := fun a ha => up_obf ha
  have sr : SR h (up h 68 0 v) := ⟨fun k hk => o k (by omega), fun k hk => o k (by omega), by rw [o 44 (by decide)], by rw [o 44 (by decide)]⟩
  exact ⟨⟨g1.sr sr, g2.congr g1.1 (o 1 (by decide)) (fun p hp => ⟨o _ (by omega), o _ (by omega)⟩) (o 47 (by decide)) (o 48 (by decide)) (o 49 (by decide)), g3.congr (o 1 (by decide)) (o 4 (by decide)) (o 50 (by decide)), g5.congr (o 1 (by decide)) (o 3 (by decide)) (by rw [o 44 (by decide)]) (fun k hk => o k (by omega)) (fun p hp => by rw [o _ (by omega)]), g6.congr (by rw [o 0 (by decide)]) (by rw [o 44 (by decide)]) (o 5 (by decide)) (o 67 (by decide))⟩, g4.congr (fun k hk => o k (by omega))⟩
set_option maxHeartbeats 2000000 in
set_option maxRecDepth 20000 in
theorem c_L_of {d : Nat} {h : Hp} {p w : Int} (hI : RI h) (hL : PLI h) (o : OPM h) (hp : inN h p) (hw : 0 ≤ w ∧ w ≤ 6) : CtL (d + 7) ML_of hhOf [mA 0, mI p, mI w, mA 68] h (fun r g => r = some (mI 0) ∧ g = up h 68 0 (ofV h p.toNat w)) := by
  refine lawOf (by decide +kernel) (Nat.le_of_ble_eq_true rfl) (fun X hX hZ hR => ?_)
  have hp2 := hp.2
  have hp1 := hp.1
  have rr := ofV_rng hI hL o (p := p.toNat) (by omega) w
  show VW X 0 [some (mA 0), some (mI p), some (mI w), some (mA 68), none] [] h
  refine v_aload_n hX eL_of_0 rfl ?_
  refine v_iconst hX eL_of_1 ?_
  refine v_aload_n hX eL_of_2 rfl ?_
  refine v_iload_n hX eL_of_3 rfl ?_
  refine v_iload_n hX eL_of_4 rfl ?_
  refine v_fnV hX eL_of_5 lV_L_7 ok_MX7_of ⟨by decide, rfl⟩ rfl ⟨rfl, Nat.le_of_ble_eq_true rfl⟩ (Nat.le_of_ble_eq_true rfl) (c_X7_of hI hL hp hw) rfl ?_
  try simp only [Int.toNat_natCast, Int.toNat_zero, Int.reduceToNat]
  refine v_i2l hX eL_of_8 rr ?_
  refine v_last hX eL_of_9 (by first | exact ⟨by decide, rfl⟩ | exact hk | exact hk2 | exact AR_rk (by omega)) ⟨by omega, by omega⟩ ?_
  try simp only [Int.toNat_natCast, Int.toNat_zero, Int.reduceToNat]
  refine v_goto hX eL_of_10 (tgt := 17) rfl ?_
  refine v_iconst hX eL_of_17 ?_
  exact v_ireturn hX hR eL_of_18 rfl (⟨rfl, rfl⟩)
set_option maxHeartbeats 2000000 in
set_option maxRecDepth 20000 in
theorem c_L_row {d : Nat} {h : Hp} {i : Int} (h7 : 0 ≤ h 0 7 ∧ h 0 7 ≤ 5) (hi : 0 ≤ i ∧ i < h 0 7) (hr5 : rng (h 5 i.toNat)) : CtL (d + 7) ML_row hhRow [mA 0, mI i, mA 68] h (fun r g => r = some (mI 0) ∧ g = up h 68 0 (h 5 i.toNat)) := by
  refine lawOf (by decide +kernel) (Nat.le_of_ble_eq_true rfl) (fun X hX hZ hR => ?_)
  show VW X 0 [some (mA 0), some (mI i), some (mA 68), none] [] h
  refine v_aload_n hX eL_row_0 rfl ?_
  refine v_iconst hX eL_row_1 ?_
  refine v_aload_n hX eL_row_2 rfl ?_
  refine v_iload_n hX eL_row_3 rfl ?_
  refine v_fnV hX eL_row_4 lV_L_15 ok_MX7_row ⟨by decide, rfl⟩ rfl ⟨rfl, Nat.le_of_ble_eq_true rfl⟩ (Nat.le_of_ble_eq_true rfl) (c_X7_row h7 hi) rfl ?_
  try simp only [Int.toNat_natCast, Int.toNat_zero, Int.reduceToNat]
  refine v_i2l hX eL_row_7 hr5 ?_
  refine v_last hX eL_row_8 (by first | exact ⟨by decide, rfl⟩ | exact hk | exact hk2 | exact AR_rk (by omega)) ⟨by omega, by omega⟩ ?_
  try simp only [Int.toNat_natCast, Int.toNat_zero, Int.reduceToNat]
  refine v_goto hX eL_row_9 (tgt := 15) rfl ?_
  refine v_iconst hX eL_row_15 ?_
  exact v_ireturn hX hR eL_row_16 rfl (⟨rfl, rfl⟩)
