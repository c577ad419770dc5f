/-! the class's constructor -/
def Q7 (tc : Nat → ClassId) (q : Nat) (w : va_W) : Prop := ∃ (ro se le pl t1 t2 t3 : Nat) (w4 w6 w1 : va_W), Q4 tc ro w4 ∧ Q6 tc se w6 ∧ Q1 tc le w1 ∧ w = ((q, .inr (7, [.ref ro, .ref se, .ref le, .ref pl, .ref t1, .ref t2, .ref t3, vz])) :: (w4 ++ w6 ++ w1)) ++ (pl, aF (tc 0) 8 8 (-1)) :: [(t1, aI (tc 0) 5), (t2, aI (tc 0) 5), (t3, aI (tc 0) 5)]
set_option maxHeartbeats 1000000 in
theorem class_loop {d : Nat} {X : CB} {q ro se le pl t1 t2 t3 : Nat} {W9 B9 : va_W} (hX : Bx (d + 3) MX7_init X) (hR : Ri Q7 q X) (hq : Q7 (TC X) q (((q, .inr (7, [.ref ro, .ref se, .ref le, .ref pl, .ref t1, .ref t2, .ref t3, vz])) :: W9) ++ (pl, aF (TC X 0) 8 8 (-1)) :: B9)) : ∀ n i : Nat, i + n = 8 → BW X 0 0 68 [some (mA q), some (mI (i : Nat))] [] (((q, .inr (7, [.ref ro, .ref se, .ref le, .ref pl, .ref t1, .ref t2, .ref t3, vz])) :: W9) ++ (pl, aF (TC X 0) 8 i (-1)) :: B9) := by
  intro n
  induction n with
  | zero =>
    intro i hi
    have hi : i = 8 := hi
    subst hi
    refine b_iload_n hX eX7_init_68 rfl ?_
    refine b_aload_n hX eX7_init_69 rfl ?_
    refine b_getA (i := 0) (fs := [.ref ro, .ref se, .ref le, .ref pl, .ref t1, .ref t2, .ref t3, vz]) hX eX7_init_70 fi_X7_30 rfl rfl ?_
    refine b_alen (z := 8) (t := 0) (ty := .int) hX eX7_init_73 (get_mid ((q, .inr (7, [.ref ro, .ref se, .ref le, .ref pl, .ref t1, .ref t2, .ref t3, vz])) :: W9) _ B9) rfl oN8 ?_
    refine b_icmp_ge hX eX7_init_74 (tgt := 90) rfl ⟨by omega, by omega⟩ ⟨by omega, by omega⟩ (fun c9 => ?_) (fun c9 => False.elim (by omega))
    exact b_return hX hR eX7_init_90 rfl hq
  | succ n ih =>
    intro i hi
    refine b_iload_n hX eX7_init_68 rfl ?_
    refine b_aload_n hX eX7_init_69 rfl ?_
    refine b_getA (i := 0) (fs := [.ref ro, .ref se, .ref le, .ref pl, .ref t1, .ref t2, .ref t3, vz]) hX eX7_init_70 fi_X7_30 rfl rfl ?_
    refine b_alen (z := 8) (t := 0) (ty := .int) hX eX7_init_73 (get_mid ((q, .inr (7, [.ref ro, .ref se, .ref le, .ref pl, .ref t1, .ref t2, .ref t3, vz])) :: W9) _ B9) rfl oN8 ?_
    refine b_icmp_ge hX eX7_init_74 (tgt := 90) rfl ⟨by omega, by omega⟩ ⟨by omega, by omega⟩ (fun c9 => False.elim (by omega)) (fun c9 => ?_)
    refine b_aload_n hX eX7_init_77 rfl ?_
    refine b_getA (i := 0) (fs := [.ref ro, .ref se, .ref le, .ref pl, .ref t1, .ref t2, .ref t3, vz]) hX eX7_init_78 fi_X7_30 rfl rfl ?_
    refine b_iload_n hX eX7_init_81 rfl ?_
    refine b_iconst hX eX7_init_82 ?_
    refine b_iast (n := 8) (A9 := (q, .inr (7, [.ref ro, .ref se, .ref le, .ref pl, .ref t1, .ref t2, .ref t3, vz])) :: W9) (B9 := B9) hX eX7_init_83 rfl ⟨by omega, by omega⟩ (by decide) ?_
    rw [upd_fill]
    refine b_iinc hX eX7_init_84 rfl rfl rfl ?_
    refine b_goto hX eX7_init_87 (tgt := 68) rfl ?_
    have t := ih (i + 1) (by omega)
    rw [show ((i + 1 : Nat) : Int) = (i : Int) + 1 by omega] at t
    exact t
set_option maxHeartbeats 1000000 in
theorem c_X7_init (d : Nat) : CtI (d + 3) MX7_init (.inr (7, [.null, .null, .null, .null, .null, .null, .null, vz])) 43 1791 Q7 := by
  refine ctorOf ok_MX7_init (Nat.le_of_ble_eq_true rfl) (fun X q hX hR => ?_)
  show BW X 43 1791 0 [some (mA q), none] [] [(q, .inr (7, [.null, .null, .null, .null, .null, .null, .null, vz]))]
  refine b_aload_n hX eX7_init_0 rfl ?_
  refine b_objinit hX eX7_init_1 oi_X7_1 ?_
  refine b_aload_n hX eX7_init_4 rfl ?_
  refine b_new (rc := 42) (rs := 1786) (ci := 4) (N := 5) (C := RX4) (T := TX4) (ty := tyX4) (fs := [.null, .null, .null, vz, vz]) hX eX7_init_5 rfl tyX4_ok cl_X7_7 inst_X4 ini_X4 (by (try simp only [vz, vl, oi0, ol0]); rfl) (fun ro => ?_)
  refine b_dup hX eX7_init_8 rfl ?_
  refine b_init (rc := 18) (rs := 1639) (M' := MX4_init) (d := d + 2) hX eX7_init_9 ok_MX4_init ml_X7_9 im_X4 ini_X4 rfl rfl rfl (Nat.le_of_ble_eq_true rfl) (c_X4_init _) (w := [_]) rfl (fun wX4 hwX4 => ?_)
  refine b_cast (h' := (q, .inr (7, [.null, .null, .null, .null, .null, .null, .null, vz])) :: wX4) rfl ?_
  refine b_putA (fs := [.null, .null, .null, .null, .null, .null, .null, vz]) (fs' := [.ref ro, .null, .null, .null, .null, .null, .null, vz]) hX rfl eX7_init_12 fi_X7_10 rfl rfl (Nat.le_of_ble_eq_true rfl) rfl ?_
  refine b_aload_n hX eX7_init_15 rfl ?_
  refine b_new (rc := 17) (rs := 1627) (ci := 6) (N := 12) (C := RX6) (T := TX6) (ty := tyX6) (fs := [.null, .null, .null, .null, .null, .null, vz, vz, vl, vl, vz, vz]) hX eX7_init_16 rfl tyX6_ok cl_X7_16 inst_X6 ini_X6 (by (try simp only [vz, vl, oi0, ol0]); rfl) (fun se => ?_)
  refine b_dup hX eX7_init_19 rfl ?_
  refine b_initN (rc := 7) (rs := 986) (M' := MX6_init) (d := d + 2) hX eX7_init_20 ok_MX6_init (by decide +kernel) im_X6 ini_X6 rfl rfl rfl (Nat.le_of_ble_eq_true rfl) (c_X6_init _) (w := _) rfl (fun wX6 hwX6 => ?_)
  refine b_cast (h' := (q, .inr (7, [.ref ro, .null, .null, .null, .null, .null, .null, vz])) :: (wX4 ++ wX6)) rfl ?_
  refine b_putA (fs := [.ref ro, .null, .null, .null, .null, .null, .null, vz]) (fs' := [.ref ro, .ref se, .null, .null, .null, .null, .null, vz]) hX rfl eX7_init_23 fi_X7_19 rfl rfl (Nat.le_of_ble_eq_true rfl) rfl ?_
  refine b_aload_n hX eX7_init_26 rfl ?_
  refine b_new (rc := 6) (rs := 983) (ci := 1) (N := 3) (C := RX1) (T := TX1) (ty := tyX1) (fs := [.null, .null, vz]) hX eX7_init_27 rfl tyX1_ok cl_X7_23 inst_X1 ini_X1 (by (try simp only [vz, vl, oi0, ol0]); rfl) (fun le => ?_)
  refine b_dup hX eX7_init_30 rfl ?_
  refine b_initN (rc := 4) (rs := 23) (M' := MX1_init) (d := d + 2) hX eX7_init_31 ok_MX1_init (by decide +kernel) im_X1 ini_X1 rfl rfl rfl (Nat.le_of_ble_eq_true rfl) (c_X1_init _) (w := _) rfl (fun wX1 hwX1 => ?_)
  refine b_cast (h' := (q, .inr (7, [.ref ro, .ref se, .null, .null, .null, .null, .null, vz])) :: (wX4 ++ wX6 ++ wX1)) rfl ?_
  refine b_putA (fs := [.ref ro, .ref se, .null, .null, .null, .null, .null, vz]) (fs' := [.ref ro, .ref se, .ref le, .null, .null, .null, .null, vz]) hX rfl eX7_init_34 fi_X7_26 rfl rfl (Nat.le_of_ble_eq_true rfl) rfl ?_
  refine b_aload_n hX eX7_init_37 rfl ?_
  refine b_bipush hX eX7_init_38 (by decide) ?_
  refine b_newa (rc := 3) (rs := 15) (t := 0) (n := 8) (ty := .int) (a0 := (8, .inl (fun _ => Int32.ofInt 0))) hX eX7_init_40 rfl rfl ac_int a0I ⟨rfl, by decide⟩ (by decide) (fun pl => ?_)
  refine b_putA (fs := [.ref ro, .ref se, .ref le, .null, .null, .null, .null, vz]) (fs' := [.ref ro, .ref se, .ref le, .ref pl, .null, .null, .null, vz]) hX rfl eX7_init_42 fi_X7_30 rfl rfl (Nat.le_of_ble_eq_true rfl) rfl ?_
  refine b_aload_n hX eX7_init_45 rfl ?_
  refine b_iconst hX eX7_init_46 ?_
  refine b_newa (rc := 2) (rs := 10) (t := 0) (n := 5) (ty := .int) (a0 := (5, .inl (fun _ => Int32.ofInt 0))) hX eX7_init_47 rfl rfl ac_int a0I ⟨rfl, by decide⟩ (by decide) (fun t1 => ?_)
  refine b_putA (fs := [.ref ro, .ref se, .ref le, .ref pl, .null, .null, .null, vz]) (fs' := [.ref ro, .ref se, .ref le, .ref pl, .ref t1, .null, .null, vz]) hX rfl eX7_init_49 fi_X7_34 rfl rfl (Nat.le_of_ble_eq_true rfl) rfl ?_
  refine b_aload_n hX eX7_init_52 rfl ?_
  refine b_iconst hX eX7_init_53 ?_
  refine b_newa (rc := 1) (rs := 5) (t := 0) (n := 5) (ty := .int) (a0 := (5, .inl (fun _ => Int32.ofInt 0))) hX eX7_init_54 rfl rfl ac_int a0I ⟨rfl, by decide⟩ (by decide) (fun t2 => ?_)
  refine b_putA (fs := [.ref ro, .ref se, .ref le, .ref pl, .ref t1, .null, .null, vz]) (fs' := [.ref ro, .ref se, .ref le, .ref pl, .ref t1, .ref t2, .null, vz]) hX rfl eX7_init_56 fi_X7_37 rfl rfl (Nat.le_of_ble_eq_true rfl) rfl ?_
  refine b_aload_n hX eX7_init_59 rfl ?_
  refine b_iconst hX eX7_init_60 ?_
  refine b_newa (rc := 0) (rs := 0) (t := 0) (n := 5) (ty := .int) (a0 := (5, .inl (fun _ => Int32.ofInt 0))) hX eX7_init_61 rfl rfl ac_int a0I ⟨rfl, by decide⟩ (by decide) (fun t3 => ?_)
  refine b_putA (fs := [.ref ro, .ref se, .ref le, .ref pl, .ref t1, .ref t2, .null, vz]) (fs' := [.ref ro, .ref se, .ref le, .ref pl, .ref t1, .ref t2, .ref t3, vz]) hX rfl eX7_init_63 fi_X7_40 rfl rfl (Nat.le_of_ble_eq_true rfl) rfl ?_
  refine b_iconst hX eX7_init_66 ?_
  refine b_istore_n hX eX7_init_67 rfl rfl ?_
  refine b_cast (h' := ((q, .inr (7, [.ref ro, .ref se, .ref le, .ref pl, .ref t1, .ref t2, .ref t3, vz])) :: (wX4 ++ wX6 ++ wX1)) ++ (pl, aF (TC X 0) 8 0 (-1)) :: [(t1, aI (TC X 0) 5), (t2, aI (TC X 0) 5), (t3, aI (TC X 0) 5)]) ?_ (class_loop hX hR ⟨ro, se, le, pl, t1, t2, t3, wX4, wX6, wX1, hwX4, hwX6, hwX1, rfl⟩ 8 0 rfl)
  unfold aF
  rw [← fill_0]
  simp
