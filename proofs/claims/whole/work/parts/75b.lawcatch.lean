/-! the law's own methods, where the class throws -/
set_option maxHeartbeats 2000000 in
set_option maxRecDepth 20000 in
theorem c_L_ofN {d : Nat} {h : Hp} {p w : Int} (hI : RI h) (hp : rng p) (hw : rng w) (bad : ¬ (inN h p ∧ 0 ≤ w ∧ w ≤ 6)) : CtL (d + 7) ML_of hhOf [mA 0, mI p, mI w, mA 68] h (fun r g => r = some (mI 1) ∧ g = h) := by
  refine lawOf (by decide +kernel) (Nat.le_of_ble_eq_true rfl) (fun X hX hZ hR => ?_)
  obtain ⟨p9, l, e, R, s, m, args, below, meth, c, al, tc, D, A, Z, rc, rs⟩ := X
  obtain ⟨hl0, htab, hth, hrc, hrs, _, _⟩ := hZ
  subst hrc
  subst hrs
  obtain ⟨hx, hb, hml, hr, hown, hts, hlk, hK, hA, hfr, hlo, hne⟩ := id hX
  show VW (p9, l, e, R, s, m, args, below, meth, c, al, tc, D, A, Z, 1, 6) 0 [some (mA 0), some (mI p), some (mI w), some (mA 68), none] [] h
  refine v_aload_n hX eL_of_0 rfl ?_
  refine v_iconst hX eL_of_1 ?_
  refine v_aload_n hX eL_of_2 rfl ?_
  refine v_iload_n hX eL_of_3 rfl ?_
  refine v_iload_n hX eL_of_4 rfl ?_
  refine v_callT (M' := MX7_of) (rc := 0) (rs := 0) hX hl0 hth eL_of_5 lV_L_7 ok_MX7_of (q := 0) ⟨by decide, rfl⟩ rfl ⟨rfl, Nat.le_of_ble_eq_true rfl⟩ (st := [mI 0, mA 68]) (by decide) (t_X7_of hI hp hw bad) rfl (fun H locs la cells slots ce q9 hP hD hS hlh h1 h2 hce hcv hcl => ?_)
  refine vx_catch (own := RL) (name := RNS) (E := RNS) hown [] ⟨0, 10, 13, 13⟩ [] (by rw [htab]; rfl) (fun z hz => absurd hz List.not_mem_nil) (by rfl) (by decide) (hts _ ns_law) (va_Nw.use rfl (hth.1 _ (List.mem_cons_of_mem _ (List.mem_cons_of_mem _ (List.mem_cons_of_mem _ List.mem_cons_self))))) hce hcv hcl ?_
  refine lv_astore (nL := 5) hx hb eL_of_13.1 (hml ▸ hlh.has) (by decide) rfl (fun la' hla => ?_)
  have hX0 : Cx (d + 7) ML_of (p9, l, e, R, s, m, args, below, meth, c, al, tc, D, A, Z, 0, 0) := Cx_room 0 0 hX
  have hR0 : Rt (fun r g => r = some (mI 1) ∧ g = h) (p9, l, e, R, s, m, args, below, meth, c, al, tc, D, A, Z, 0, 0) := Rt_room 0 0 hR
  have hfin : VW (p9, l, e, R, s, m, args, below, meth, c, al, tc, D, A, Z, 0, 0) 15 [none, none, none, none, none] [] h := v_iconst hX0 eL_of_15 (v_ireturn hX0 hR0 eL_of_16 rfl ⟨rfl, rfl⟩)
  exact hfin H locs la' cells slots hP hD hS ⟨hla.1.trans hml.symm, hla.2.1, fun i v hi => by rcases i with _ | _ | _ | _ | _ | i <;> simp at hi⟩ h1 h2
set_option maxHeartbeats 2000000 in
set_option maxRecDepth 20000 in
theorem c_L_rowN {d : Nat} {h : Hp} {i : Int} (h7 : 0 ≤ h 0 7 ∧ h 0 7 ≤ 5) (hri : rng i) (bad : ¬ (0 ≤ i ∧ i < h 0 7)) : CtL (d + 7) ML_row hhRow [mA 0, mI i, mA 68] h (fun r g => r = some (mI 1) ∧ g = h) := by
  refine lawOf (by decide +kernel) (Nat.le_of_ble_eq_true rfl) (fun X hX hZ hR => ?_)
  obtain ⟨p9, l, e, R, s, m, args, below, meth, c, al, tc, D, A, Z, rc, rs⟩ := X
  obtain ⟨hl0, htab, hth, hrc, hrs, _, _⟩ := hZ
  subst hrc
  subst hrs
  obtain ⟨hx, hb, hml, hr, hown, hts, hlk, hK, hA, hfr, hlo, hne⟩ := id hX
  show VW (p9, l, e, R, s, m, args, below, meth, c, al, tc, D, A, Z, 1, 6) 0 [some (mA 0), some (mI i), some (mA 68), none] [] h
  refine v_aload_n hX eL_row_0 rfl ?_
  refine v_iconst hX eL_row_1 ?_
  refine v_aload_n hX eL_row_2 rfl ?_
  refine v_iload_n hX eL_row_3 rfl ?_
  refine v_callT (M' := MX7_row) (rc := 0) (rs := 0) hX hl0 hth eL_row_4 lV_L_15 ok_MX7_row (q := 0) ⟨by decide, rfl⟩ rfl ⟨rfl, Nat.le_of_ble_eq_true rfl⟩ (st := [mI 0, mA 68]) (by decide) (t_X7_row h7 hri bad) rfl (fun H locs la cells slots ce q9 hP hD hS hlh h1 h2 hce hcv hcl => ?_)
  refine vx_catch (own := RL) (name := RNS) (E := RNS) hown [] ⟨0, 9, 12, 13⟩ [] (by rw [htab]; rfl) (fun z hz => absurd hz List.not_mem_nil) (by rfl) (by decide) (hts _ ns_law) (va_Nw.use rfl (hth.1 _ (List.mem_cons_of_mem _ (List.mem_cons_of_mem _ (List.mem_cons_of_mem _ List.mem_cons_self))))) hce hcv hcl ?_
  refine lv_astore_n (nL := 4) (i := 3) hx hb eL_row_12.1 rfl (hml ▸ hlh.has) (by decide) rfl (fun la' hla => ?_)
  have hX0 : Cx (d + 7) ML_row (p9, l, e, R, s, m, args, below, meth, c, al, tc, D, A, Z, 0, 0) := Cx_room 0 0 hX
  have hR0 : Rt (fun r g => r = some (mI 1) ∧ g = h) (p9, l, e, R, s, m, args, below, meth, c, al, tc, D, A, Z, 0, 0) := Rt_room 0 0 hR
  have hfin : VW (p9, l, e, R, s, m, args, below, meth, c, al, tc, D, A, Z, 0, 0) 13 [none, none, none, none] [] h := v_iconst hX0 eL_row_13 (v_ireturn hX0 hR0 eL_row_14 rfl ⟨rfl, rfl⟩)
  exact hfin H locs la' cells slots hP hD hS ⟨hla.1.trans hml.symm, hla.2.1, fun i v hi => by rcases i with _ | _ | _ | _ | i <;> simp at hi⟩ h1 h2
