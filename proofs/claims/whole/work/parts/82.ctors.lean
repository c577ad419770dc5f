/-! constructors without a loop: what they leave -/
abbrev vz : Value := .int (Int32.ofInt 0)
abbrev vl : Value := .long (Int64.ofInt 0)
theorem oi0 : Int32.ofInt 0 = 0 := by decide +kernel
theorem ol0 : Int64.ofInt 0 = 0 := by decide +kernel
theorem a0I {n : Nat} (cA : ClassId) : vp_cell cA (n, .inl (fun _ => Int32.ofInt 0)) = arrV cA n (fun _ => defaultValue .int) := by
  rw [vp_cell_i, oi0]; rfl
theorem a0Z {n : Nat} (cA : ClassId) : vp_cell cA (n, .inl (fun _ => Int32.ofInt 0)) = arrV cA n (fun _ => defaultValue .boolean) := by
  rw [vp_cell_i, oi0]; rfl
theorem a0L {n : Nat} (cA : ClassId) : vp_cell cA (n, .inr (.inl (fun _ => Int64.ofInt 0))) = arrV cA n (fun _ => defaultValue .long) := by
  rw [vp_cell_l, ol0]; rfl
abbrev aI (t : ClassId) (n : Nat) : va_E := .inl (t, n, .inl (fun _ => Int32.ofInt 0))
abbrev aL (t : ClassId) (n : Nat) : va_E := .inl (t, n, .inr (.inl (fun _ => Int64.ofInt 0)))
def Q0 (tc : Nat → ClassId) (q : Nat) (w : va_W) : Prop := ∃ a b, w = [(q, .inr (0, [.ref a, .ref b])), (a, aI (tc 0) 256), (b, aI (tc 0) 256)]
def Q1 (tc : Nat → ClassId) (q : Nat) (w : va_W) : Prop := ∃ a b, w = [(q, .inr (1, [.ref a, .ref b, vz])), (a, aI (tc 0) 480), (b, aI (tc 0) 480)]
def Q5 (tc : Nat → ClassId) (q : Nat) (w : va_W) : Prop := ∃ a b, w = [(q, .inr (5, [.ref a, .ref b])), (a, aL (tc 2) 48), (b, aL (tc 2) 48)]
def Q2 (_ : Nat → ClassId) (q : Nat) (w : va_W) : Prop := w = [(q, .inr (2, [vz, vz, vz, vz, vz, .int (Int32.ofInt 1)]))]
def Q6 (tc : Nat → ClassId) (q : Nat) (w : va_W) : Prop := ∃ g g1 g2 s s1 s2 a b c d, w = [(q, .inr (6, [.ref g, .ref s, .ref a, .ref b, .ref c, .ref d, vz, vz, vl, vl, vz, vz])), (g, .inr (0, [.ref g1, .ref g2])), (g1, aI (tc 0) 256), (g2, aI (tc 0) 256), (s, .inr (5, [.ref s1, .ref s2])), (s1, aL (tc 2) 48), (s2, aL (tc 2) 48), (a, aI (tc 0) 8), (b, aI (tc 0) 5), (c, aI (tc 0) 8), (d, aI (tc 0) 8)]
theorem c_X0_init (d : Nat) : CtI (d + 1) MX0_init (.inr (0, [.null, .null])) 2 512 Q0 := by
  refine ctorOf ok_MX0_init (Nat.le_of_ble_eq_true rfl) (fun X q hX hR => ?_)
  show BW X 2 512 0 [some (mA q)] [] [(q, .inr (0, [.null, .null]))]
  refine b_aload_n hX eX0_init_0 rfl ?_
  refine b_objinit hX eX0_init_1 oi_X0_3 ?_
  refine b_aload_n hX eX0_init_4 rfl ?_
  refine b_sipush hX eX0_init_5 (by decide) ?_
  refine b_newa (rc := 1) (rs := 256) (t := 0) (n := 256) (ty := .int) (a0 := (256, .inl (fun _ => Int32.ofInt 0))) hX eX0_init_8 rfl rfl ac_int a0I ⟨rfl, by decide⟩ (by decide) (fun a => ?_)
  refine b_putA (fs := [.null, .null]) (fs' := [.ref a, .null]) hX rfl eX0_init_10 fi_X0_9 rfl rfl (Nat.le_of_ble_eq_true rfl) rfl ?_
  refine b_aload_n hX eX0_init_13 rfl ?_
  refine b_sipush hX eX0_init_14 (by decide) ?_
  refine b_newa (rc := 0) (rs := 0) (t := 0) (n := 256) (ty := .int) (a0 := (256, .inl (fun _ => Int32.ofInt 0))) hX eX0_init_17 rfl rfl ac_int a0I ⟨rfl, by decide⟩ (by decide) (fun b => ?_)
  refine b_putA (fs := [.ref a, .null]) (fs' := [.ref a, .ref b]) hX rfl eX0_init_19 fi_X0_15 rfl rfl (Nat.le_of_ble_eq_true rfl) rfl ?_
  exact b_return hX hR eX0_init_22 rfl ⟨a, b, rfl⟩
theorem c_X1_init (d : Nat) : CtI (d + 1) MX1_init (.inr (1, [.null, .null, vz])) 2 960 Q1 := by
  refine ctorOf ok_MX1_init (Nat.le_of_ble_eq_true rfl) (fun X q hX hR => ?_)
  show BW X 2 960 0 [some (mA q)] [] [(q, .inr (1, [.null, .null, vz]))]
  refine b_aload_n hX eX1_init_0 rfl ?_
  refine b_objinit hX eX1_init_1 oi_X1_3 ?_
  refine b_aload_n hX eX1_init_4 rfl ?_
  refine b_sipush hX eX1_init_5 (by decide) ?_
  refine b_newa (rc := 1) (rs := 480) (t := 0) (n := 480) (ty := .int) (a0 := (480, .inl (fun _ => Int32.ofInt 0))) hX eX1_init_8 rfl rfl ac_int a0I ⟨rfl, by decide⟩ (by decide) (fun a => ?_)
  refine b_putA (fs := [.null, .null, vz]) (fs' := [.ref a, .null, vz]) hX rfl eX1_init_10 fi_X1_9 rfl rfl (Nat.le_of_ble_eq_true rfl) rfl ?_
  refine b_aload_n hX eX1_init_13 rfl ?_
  refine b_sipush hX eX1_init_14 (by decide) ?_
  refine b_newa (rc := 0) (rs := 0) (t := 0) (n := 480) (ty := .int) (a0 := (480, .inl (fun _ => Int32.ofInt 0))) hX eX1_init_17 rfl rfl ac_int a0I ⟨rfl, by decide⟩ (by decide) (fun b => ?_)
  refine b_putA (fs := [.ref a, .null, vz]) (fs' := [.ref a, .ref b, vz]) hX rfl eX1_init_19 fi_X1_15 rfl rfl (Nat.le_of_ble_eq_true rfl) rfl ?_
  exact b_return hX hR eX1_init_22 rfl ⟨a, b, rfl⟩
theorem c_X5_init (d : Nat) : CtI (d + 1) MX5_init (.inr (5, [.null, .null])) 2 96 Q5 := by
  refine ctorOf ok_MX5_init (Nat.le_of_ble_eq_true rfl) (fun X q hX hR => ?_)
  show BW X 2 96 0 [some (mA q)] [] [(q, .inr (5, [.null, .null]))]
  refine b_aload_n hX eX5_init_0 rfl ?_
  refine b_objinit hX eX5_init_1 oi_X5_5 ?_
  refine b_aload_n hX eX5_init_4 rfl ?_
  refine b_bipush hX eX5_init_5 (by decide) ?_
  refine b_newa (rc := 1) (rs := 48) (t := 2) (n := 48) (ty := .long) (a0 := (48, .inr (.inl (fun _ => Int64.ofInt 0)))) hX eX5_init_7 rfl rfl ac_long a0L ⟨rfl, by decide⟩ (by decide) (fun a => ?_)
  refine b_putA (fs := [.null, .null]) (fs' := [.ref a, .null]) hX rfl eX5_init_9 fi_X5_11 rfl rfl (Nat.le_of_ble_eq_true rfl) rfl ?_
  refine b_aload_n hX eX5_init_12 rfl ?_
  refine b_bipush hX eX5_init_13 (by decide) ?_
  refine b_newa (rc := 0) (rs := 0) (t := 2) (n := 48) (ty := .long) (a0 := (48, .inr (.inl (fun _ => Int64.ofInt 0)))) hX eX5_init_15 rfl rfl ac_long a0L ⟨rfl, by decide⟩ (by decide) (fun b => ?_)
  refine b_putA (fs := [.ref a, .null]) (fs' := [.ref a, .ref b]) hX rfl eX5_init_17 fi_X5_15 rfl rfl (Nat.le_of_ble_eq_true rfl) rfl ?_
  exact b_return hX hR eX5_init_20 rfl ⟨a, b, rfl⟩
theorem c_X2_init (d : Nat) : CtI (d + 1) MX2_init (.inr (2, [vz, vz, vz, vz, vz, vz])) 0 0 Q2 := by
  refine ctorOf ok_MX2_init (Nat.le_of_ble_eq_true rfl) (fun X q hX hR => ?_)
  show BW X 0 0 0 [some (mA q)] [] [(q, .inr (2, [vz, vz, vz, vz, vz, vz]))]
  refine b_aload_n hX eX2_init_0 rfl ?_
  refine b_objinit hX eX2_init_1 oi_X2_3 ?_
  refine b_aload_n hX eX2_init_4 rfl ?_
  refine b_iconst hX eX2_init_5 ?_
  refine b_putI (kd := 3) (fs := [vz, vz, vz, vz, vz, vz]) hX eX2_init_6 fi_X2_9 (by decide) (by decide) (by decide) rfl (Nat.le_of_ble_eq_true rfl) ?_
  exact b_return hX hR eX2_init_9 rfl rfl
theorem c_X6_init (d : Nat) : CtI (d + 2) MX6_init (.inr (6, [.null, .null, .null, .null, .null, .null, vz, vz, vl, vl, vz, vz])) 10 641 Q6 := by
  refine ctorOf ok_MX6_init (Nat.le_of_ble_eq_true rfl) (fun X q hX hR => ?_)
  show BW X 10 641 0 [some (mA q)] [] [(q, .inr (6, [.null, .null, .null, .null, .null, .null, vz, vz, vl, vl, vz, vz]))]
  refine b_aload_n hX eX6_init_0 rfl ?_
  refine b_objinit hX eX6_init_1 oi_X6_3 ?_
  refine b_aload_n hX eX6_init_4 rfl ?_
  refine b_new (rc := 9) (rs := 639) (ci := 0) (N := 2) (C := RX0) (T := TX0) (ty := tyX0) (fs := [.null, .null]) hX eX6_init_5 rfl tyX0_ok cl_X6_9 inst_X0 ini_X0 (by (try simp only [vz, vl, oi0, ol0]); rfl) (fun g => ?_)
  refine b_dup hX eX6_init_8 rfl ?_
  refine b_initN (rc := 7) (rs := 127) (M' := MX0_init) (d := d + 1) hX eX6_init_9 ok_MX0_init (by decide +kernel) im_X0 ini_X0 rfl rfl rfl (Nat.le_of_ble_eq_true rfl) (c_X0_init _) (w := [_]) rfl (fun wX0 hwX0 => ?_)
  obtain ⟨g1, g2, rfl⟩ := hwX0
  refine b_putA (fs := [.null, .null, .null, .null, .null, .null, vz, vz, vl, vl, vz, vz]) (fs' := [.ref g, .null, .null, .null, .null, .null, vz, vz, vl, vl, vz, vz]) hX rfl eX6_init_12 fi_X6_12 rfl rfl (Nat.le_of_ble_eq_true rfl) rfl ?_
  refine b_aload_n hX eX6_init_15 rfl ?_
  refine b_new (rc := 6) (rs := 125) (ci := 5) (N := 2) (C := RX5) (T := TX5) (ty := tyX5) (fs := [.null, .null]) hX eX6_init_16 rfl tyX5_ok cl_X6_18 inst_X5 ini_X5 (by (try simp only [vz, vl, oi0, ol0]); rfl) (fun s => ?_)
  refine b_dup hX eX6_init_19 rfl ?_
  refine b_initN (rc := 4) (rs := 29) (M' := MX5_init) (d := d + 1) hX eX6_init_20 ok_MX5_init (by decide +kernel) im_X5 ini_X5 rfl rfl rfl (Nat.le_of_ble_eq_true rfl) (c_X5_init _) (w := [_, _, _, _]) rfl (fun wX5 hwX5 => ?_)
  obtain ⟨s1, s2, rfl⟩ := hwX5
  refine b_putA (fs := [.ref g, .null, .null, .null, .null, .null, vz, vz, vl, vl, vz, vz]) (fs' := [.ref g, .ref s, .null, .null, .null, .null, vz, vz, vl, vl, vz, vz]) hX rfl eX6_init_23 fi_X6_21 rfl rfl (Nat.le_of_ble_eq_true rfl) rfl ?_
  refine b_aload_n hX eX6_init_26 rfl ?_
  refine b_bipush hX eX6_init_27 (by decide) ?_
  refine b_newa (rc := 3) (rs := 21) (t := 0) (n := 8) (ty := .int) (a0 := (8, .inl (fun _ => Int32.ofInt 0))) hX eX6_init_29 rfl rfl ac_int a0I ⟨rfl, by decide⟩ (by decide) (fun a => ?_)
  refine b_putA (fs := [.ref g, .ref s, .null, .null, .null, .null, vz, vz, vl, vl, vz, vz]) (fs' := [.ref g, .ref s, .ref a, .null, .null, .null, vz, vz, vl, vl, vz, vz]) hX rfl eX6_init_31 fi_X6_25 rfl rfl (Nat.le_of_ble_eq_true rfl) rfl ?_
  refine b_aload_n hX eX6_init_34 rfl ?_
  refine b_iconst hX eX6_init_35 ?_
  refine b_newa (rc := 2) (rs := 16) (t := 0) (n := 5) (ty := .int) (a0 := (5, .inl (fun _ => Int32.ofInt 0))) hX eX6_init_36 rfl rfl ac_int a0I ⟨rfl, by decide⟩ (by decide) (fun b => ?_)
  refine b_putA (fs := [.ref g, .ref s, .ref a, .null, .null, .null, vz, vz, vl, vl, vz, vz]) (fs' := [.ref g, .ref s, .ref a, .ref b, .null, .null, vz, vz, vl, vl, vz, vz]) hX rfl eX6_init_38 fi_X6_29 rfl rfl (Nat.le_of_ble_eq_true rfl) rfl ?_
  refine b_aload_n hX eX6_init_41 rfl ?_
  refine b_bipush hX eX6_init_42 (by decide) ?_
  refine b_newa (rc := 1) (rs := 8) (t := 0) (n := 8) (ty := .int) (a0 := (8, .inl (fun _ => Int32.ofInt 0))) hX eX6_init_44 rfl rfl ac_int a0I ⟨rfl, by decide⟩ (by decide) (fun c => ?_)
  refine b_putA (fs := [.ref g, .ref s, .ref a, .ref b, .null, .null, vz, vz, vl, vl, vz, vz]) (fs' := [.ref g, .ref s, .ref a, .ref b, .ref c, .null, vz, vz, vl, vl, vz, vz]) hX rfl eX6_init_46 fi_X6_32 rfl rfl (Nat.le_of_ble_eq_true rfl) rfl ?_
  refine b_aload_n hX eX6_init_49 rfl ?_
  refine b_bipush hX eX6_init_50 (by decide) ?_
  refine b_newa (rc := 0) (rs := 0) (t := 0) (n := 8) (ty := .int) (a0 := (8, .inl (fun _ => Int32.ofInt 0))) hX eX6_init_52 rfl rfl ac_int a0I ⟨rfl, by decide⟩ (by decide) (fun d9 => ?_)
  refine b_putA (fs := [.ref g, .ref s, .ref a, .ref b, .ref c, .null, vz, vz, vl, vl, vz, vz]) (fs' := [.ref g, .ref s, .ref a, .ref b, .ref c, .ref d9, vz, vz, vl, vl, vz, vz]) hX rfl eX6_init_54 fi_X6_35 rfl rfl (Nat.le_of_ble_eq_true rfl) rfl ?_
  exact b_return hX hR eX6_init_57 rfl ⟨g, g1, g2, s, s1, s2, a, b, c, d9, rfl⟩
