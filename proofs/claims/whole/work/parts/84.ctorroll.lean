/-! the constructors with a loop: Pupil, Roll -/
abbrev aF (t : ClassId) (n i : Nat) (v : Int) : va_E := .inl (t, n, .inl (fun j => Int32.ofInt (if j < i then v else 0)))
abbrev aQ (t : ClassId) (n i : Nat) (P : Nat → Nat) : va_E := .inl (t, n, .inr (.inr (.inr (.inr (fun j => if j < i then some (P j) else none)))))
theorem oN5 : Int32.ofNat 5 = Int32.ofInt 5 := by decide +kernel
theorem oN8 : Int32.ofNat 8 = Int32.ofInt 8 := by decide +kernel
theorem upd_fill (i : Nat) (v : Int) : upd (fun j => Int32.ofInt (if j < i then v else 0)) (i : Int).toNat (Int32.ofInt v) = fun j => Int32.ofInt (if j < i + 1 then v else 0) := by
  funext j
  rw [Int.toNat_natCast]
  unfold upd
  by_cases e : j = i
  · subst e
    simp
  · by_cases e2 : j < i
    · simp [e, e2, Nat.lt_succ_of_lt e2]
    · have e3 : ¬ j < i + 1 := by omega
      simp [e, e2, e3]
theorem fill_0 (v : Int) : (fun _ : Nat => Int32.ofInt 0) = fun j => Int32.ofInt (if j < 0 then v else 0) := by
  funext j
  simp
def Q3 (tc : Nat → ClassId) (q : Nat) (w : va_W) : Prop := ∃ a, w = [(q, .inr (3, [.ref a, vz, vz, vz, vz, vz, .int (Int32.ofInt 1)])), (a, aF (tc 0) 5 5 6)]
set_option maxHeartbeats 1000000 in
theorem pupil_loop {d : Nat} {X : CB} {q a : Nat} (hX : Bx (d + 1) MX3_init X) (hR : Ri Q3 q X) : ∀ n i : Nat, i + n = 5 → BW X 0 0 18 [some (mA q), some (mI (i : Nat))] [] [(q, .inr (3, [.ref a, vz, vz, vz, vz, vz, .int (Int32.ofInt 1)])), (a, aF (TC X 0) 5 i 6)] := by
  intro n
  induction n with
  | zero =>
    intro i hi
    have hi : i = 5 := hi
    subst hi
    refine b_iload_n hX eX3_init_18 rfl ?_
    refine b_aload_n hX eX3_init_19 rfl ?_
    refine b_getA (i := 0) (fs := [.ref a, vz, vz, vz, vz, vz, .int (Int32.ofInt 1)]) hX eX3_init_20 fi_X3_9 rfl rfl ?_
    refine b_alen (z := 5) (i := 1) (t := 0) (ty := .int) hX eX3_init_23 rfl rfl oN5 ?_
    refine b_icmp_ge hX eX3_init_24 (tgt := 41) rfl ⟨by omega, by omega⟩ ⟨by omega, by omega⟩ (fun c9 => ?_) (fun c9 => False.elim (by omega))
    exact b_return hX hR eX3_init_41 rfl ⟨a, rfl⟩
  | succ n ih =>
    intro i hi
    refine b_iload_n hX eX3_init_18 rfl ?_
    refine b_aload_n hX eX3_init_19 rfl ?_
    refine b_getA (i := 0) (fs := [.ref a, vz, vz, vz, vz, vz, .int (Int32.ofInt 1)]) hX eX3_init_20 fi_X3_9 rfl rfl ?_
    refine b_alen (z := 5) (i := 1) (t := 0) (ty := .int) hX eX3_init_23 rfl rfl oN5 ?_
    refine b_icmp_ge hX eX3_init_24 (tgt := 41) rfl ⟨by omega, by omega⟩ ⟨by omega, by omega⟩ (fun c9 => False.elim (by omega)) (fun c9 => ?_)
    refine b_aload_n hX eX3_init_27 rfl ?_
    refine b_getA (i := 0) (fs := [.ref a, vz, vz, vz, vz, vz, .int (Int32.ofInt 1)]) hX eX3_init_28 fi_X3_9 rfl rfl ?_
    refine b_iload_n hX eX3_init_31 rfl ?_
    refine b_bipush hX eX3_init_32 (by decide) ?_
    refine b_iast (n := 5) (A9 := [_]) (B9 := []) hX eX3_init_34 rfl ⟨by omega, by omega⟩ (by decide) ?_
    rw [upd_fill]
    refine b_iinc hX eX3_init_35 rfl rfl rfl ?_
    refine b_goto hX eX3_init_38 (tgt := 18) rfl ?_
    have t := ih (i + 1) (by omega)
    rw [show ((i + 1 : Nat) : Int) = (i : Int) + 1 by omega] at t
    exact t
theorem c_X3_init (d : Nat) : CtI (d + 1) MX3_init (.inr (3, [.null, vz, vz, vz, vz, vz, vz])) 1 5 Q3 := by
  refine ctorOf ok_MX3_init (Nat.le_of_ble_eq_true rfl) (fun X q hX hR => ?_)
  show BW X 1 5 0 [some (mA q), none] [] [(q, .inr (3, [.null, vz, vz, vz, vz, vz, vz]))]
  refine b_aload_n hX eX3_init_0 rfl ?_
  refine b_objinit hX eX3_init_1 oi_X3_3 ?_
  refine b_aload_n hX eX3_init_4 rfl ?_
  refine b_iconst hX eX3_init_5 ?_
  refine b_newa (rc := 0) (rs := 0) (t := 0) (n := 5) (ty := .int) (a0 := (5, .inl (fun _ => Int32.ofInt 0))) hX eX3_init_6 rfl rfl ac_int a0I ⟨rfl, by decide⟩ (by decide) (fun a => ?_)
  refine b_putA (fs := [.null, vz, vz, vz, vz, vz, vz]) (fs' := [.ref a, vz, vz, vz, vz, vz, vz]) hX rfl eX3_init_8 fi_X3_9 rfl rfl (Nat.le_of_ble_eq_true rfl) rfl ?_
  refine b_aload_n hX eX3_init_11 rfl ?_
  refine b_iconst hX eX3_init_12 ?_
  refine b_putI (kd := 3) (fs := [.ref a, vz, vz, vz, vz, vz, vz]) hX eX3_init_13 fi_X3_15 (by decide) (by decide) (by decide) rfl (Nat.le_of_ble_eq_true rfl) ?_
  refine b_iconst hX eX3_init_16 ?_
  refine b_istore_n hX eX3_init_17 rfl rfl ?_
  refine b_cast (h' := [(q, .inr (3, [.ref a, vz, vz, vz, vz, vz, .int (Int32.ofInt 1)])), (a, aF (TC X 0) 5 0 6)]) ?_ (pupil_loop hX hR 5 0 rfl)
  unfold aF
  rw [← fill_0]
  rfl
def pup (tc : Nat → ClassId) (P K : Nat → Nat) (j : Nat) : va_W := [(P j, .inr (3, [.ref (K j), vz, vz, vz, vz, vz, .int (Int32.ofInt 1)])), (K j, aF (tc 0) 5 5 6)]
def prj (J : Nat → Nat) (j : Nat) : va_W := [(J j, .inr (2, [vz, vz, vz, vz, vz, .int (Int32.ofInt 1)]))]
def pups (tc : Nat → ClassId) (P K : Nat → Nat) (n : Nat) : va_W := (List.range n).flatMap (pup tc P K)
def prjs (J : Nat → Nat) (n : Nat) : va_W := (List.range n).flatMap (prj J)
def fx (P : Nat → Nat) (i v : Nat) : Nat → Nat := fun j => if j = i then v else P j
theorem flat_same {α : Type} {f g : Nat → List α} : ∀ n : Nat, (∀ j, j < n → f j = g j) → (List.range n).flatMap f = (List.range n).flatMap g := by
  intro n
  induction n with
  | zero => intro _; rfl
  | succ n ih =>
    intro h
    rw [List.range_succ, List.flatMap_append, List.flatMap_append, ih (fun j hj => h j (by omega))]
    simp only [List.flatMap_cons, List.flatMap_nil, List.append_nil, h n (Nat.lt_succ_self n)]
theorem pups_step (tc : Nat → ClassId) (P K : Nat → Nat) (i v a : Nat) : pups tc (fx P i v) (fx K i a) (i + 1) = pups tc P K i ++ [(v, .inr (3, [.ref a, vz, vz, vz, vz, vz, .int (Int32.ofInt 1)])), (a, aF (tc 0) 5 5 6)] := by
  unfold pups
  rw [List.range_succ, List.flatMap_append, flat_same (f := pup tc (fx P i v) (fx K i a)) (g := pup tc P K) i (fun j hj => by
    unfold pup fx
    rw [if_neg (Nat.ne_of_lt hj), if_neg (Nat.ne_of_lt hj)])]
  simp [pup, fx]
theorem prjs_step (J : Nat → Nat) (i v : Nat) : prjs (fx J i v) (i + 1) = prjs J i ++ [(v, .inr (2, [vz, vz, vz, vz, vz, .int (Int32.ofInt 1)]))] := by
  unfold prjs
  rw [List.range_succ, List.flatMap_append, flat_same (f := prj (fx J i v)) (g := prj J) i (fun j hj => by
    unfold prj fx
    rw [if_neg (Nat.ne_of_lt hj)])]
  simp [prj, fx]
theorem up_fill (P : Nat → Nat) (i v : Nat) : va_up (fun j => if j < i then some (P j) else none) (i : Int).toNat (some v) = fun j => if j < i + 1 then some (fx P i v j) else none := by
  funext j
  rw [Int.toNat_natCast]
  unfold va_up fx
  by_cases e : j = i
  · subst e
    simp
  · by_cases e2 : j < i
    · simp [e, e2, Nat.lt_succ_of_lt e2]
    · have e3 : ¬ j < i + 1 := by omega
      simp [e, e2, e3]
def R4 (tc : Nat → ClassId) (q pa ja oa i k : Nat) (P K J : Nat → Nat) : va_W := (q, .inr (4, [.ref pa, .ref ja, .ref oa, vz, vz])) :: (pa, aQ (tc 3) 8 i P) :: (ja, aQ (tc 4) 5 k J) :: (oa, aI (tc 0) 8) :: (pups tc P K i ++ prjs J k)
def Q4 (tc : Nat → ClassId) (q : Nat) (w : va_W) : Prop := ∃ (pa ja oa : Nat) (P K J : Nat → Nat), w = R4 tc q pa ja oa 8 5 P K J
set_option maxHeartbeats 2000000 in
theorem roll_loop2 {d : Nat} {X : CB} {q pa ja oa : Nat} {P K : Nat → Nat} (hX : Bx (d + 2) MX4_init X) (hR : Ri Q4 q X) : ∀ (n i : Nat) (J : Nat → Nat), i + n = 5 → BW X n (6 * n) 61 [some (mA q), some (mI (i : Nat))] [] (R4 (TC X) q pa ja oa 8 i P K J) := by
  intro n
  induction n with
  | zero =>
    intro i J hi
    have hi : i = 5 := hi
    subst hi
    refine b_iload_n hX eX4_init_61 rfl ?_
    refine b_aload_n hX eX4_init_62 rfl ?_
    refine b_getA (i := 0) (fs := [.ref pa, .ref ja, .ref oa, vz, vz]) hX eX4_init_63 fi_X4_19 rfl rfl ?_
    refine b_alen (z := 5) (i := 2) (t := 4) (ty := .object "WishSharer$Project") hX eX4_init_66 rfl rfl oN5 ?_
    refine b_icmp_ge hX eX4_init_67 (tgt := 89) rfl ⟨by omega, by omega⟩ ⟨by omega, by omega⟩ (fun c9 => ?_) (fun c9 => False.elim (by omega))
    exact b_return hX hR eX4_init_89 rfl ⟨pa, ja, oa, P, K, J, rfl⟩
  | succ n ih =>
    intro i J hi
    refine b_iload_n hX eX4_init_61 rfl ?_
    refine b_aload_n hX eX4_init_62 rfl ?_
    refine b_getA (i := 0) (fs := [.ref pa, .ref ja, .ref oa, vz, vz]) hX eX4_init_63 fi_X4_19 rfl rfl ?_
    refine b_alen (z := 5) (i := 2) (t := 4) (ty := .object "WishSharer$Project") hX eX4_init_66 rfl rfl oN5 ?_
    refine b_icmp_ge hX eX4_init_67 (tgt := 89) rfl ⟨by omega, by omega⟩ ⟨by omega, by omega⟩ (fun c9 => False.elim (by omega)) (fun c9 => ?_)
    refine b_aload_n hX eX4_init_70 rfl ?_
    refine b_getA (i := 0) (fs := [.ref pa, .ref ja, .ref oa, vz, vz]) hX eX4_init_71 fi_X4_19 rfl rfl ?_
    refine b_iload_n hX eX4_init_74 rfl ?_
    refine b_less (rc := n + 0 + 1) (rs := 6 * n + 0 + 6) ?_ (by omega) (by omega)
    refine b_new (rc := n + 0) (rs := 6 * n + 0) (ci := 2) (N := 6) (C := RX2) (T := TX2) (ty := tyX2) (fs := [vz, vz, vz, vz, vz, vz]) hX eX4_init_75 rfl tyX2_ok cl_X4_17 inst_X2 ini_X2 (by (try simp only [vz, vl, oi0, ol0]); rfl) (fun v => ?_)
    refine b_dup hX eX4_init_78 rfl ?_
    refine b_initN (rc := n) (rs := 6 * n) (mc := 0) (ms := 0) (M' := MX2_init) (d := d + 1) hX eX4_init_79 ok_MX2_init (by decide +kernel) im_X2 ini_X2 rfl rfl rfl (Nat.le_of_ble_eq_true rfl) (c_X2_init _) (w := R4 (TC X) q pa ja oa 8 i P K J) rfl (fun w9 hw9 => ?_)
    subst hw9
    refine b_astq (n := 5) (t := 4) (ci := 2) (r := (RX2, TX2, 6)) (vs := [vz, vz, vz, vz, vz, .int (Int32.ofInt 1)]) (A9 := [_, _]) (B9 := (oa, aI (TC X 0) 8) :: (pups (TC X) P K 8 ++ prjs J i) ++ [(v, .inr (2, [vz, vz, vz, vz, vz, .int (Int32.ofInt 1)]))]) hX eX4_init_82 rfl rfl (by simp) rfl ⟨by omega, by omega⟩ (by decide) ?_
    rw [up_fill]
    refine b_iinc hX eX4_init_83 rfl rfl rfl ?_
    refine b_goto hX eX4_init_86 (tgt := 61) rfl ?_
    have t := ih (i + 1) (fx J i v) (by omega)
    rw [show ((i + 1 : Nat) : Int) = (i : Int) + 1 by omega] at t
    refine b_cast ?_ t
    unfold R4
    rw [prjs_step]
    simp only [List.cons_append, List.nil_append, List.append_assoc]
set_option maxHeartbeats 2000000 in
theorem roll_loop1 {d : Nat} {X : CB} {q pa ja oa : Nat} (hX : Bx (d + 2) MX4_init X) (hR : Ri Q4 q X) : ∀ (n i : Nat) (P K : Nat → Nat), i + n = 8 → BW X (2 * n + 5) (12 * n + 30) 31 [some (mA q), some (mI (i : Nat))] [] (R4 (TC X) q pa ja oa i 0 P K (fun _ => 0)) := by
  intro n
  induction n with
  | zero =>
    intro i P K hi
    have hi : i = 8 := hi
    subst hi
    refine b_iload_n hX eX4_init_31 rfl ?_
    refine b_aload_n hX eX4_init_32 rfl ?_
    refine b_getA (i := 0) (fs := [.ref pa, .ref ja, .ref oa, vz, vz]) hX eX4_init_33 fi_X4_11 rfl rfl ?_
    refine b_alen (z := 8) (i := 1) (t := 3) (ty := .object "WishSharer$Pupil") hX eX4_init_36 rfl rfl oN8 ?_
    refine b_icmp_ge hX eX4_init_37 (tgt := 59) rfl ⟨by omega, by omega⟩ ⟨by omega, by omega⟩ (fun c9 => ?_) (fun c9 => False.elim (by omega))
    refine b_iconst hX eX4_init_59 ?_
    refine b_istore_n hX eX4_init_60 rfl rfl ?_
    exact roll_loop2 hX hR 5 0 (fun _ => 0) rfl
  | succ n ih =>
    intro i P K hi
    refine b_iload_n hX eX4_init_31 rfl ?_
    refine b_aload_n hX eX4_init_32 rfl ?_
    refine b_getA (i := 0) (fs := [.ref pa, .ref ja, .ref oa, vz, vz]) hX eX4_init_33 fi_X4_11 rfl rfl ?_
    refine b_alen (z := 8) (i := 1) (t := 3) (ty := .object "WishSharer$Pupil") hX eX4_init_36 rfl rfl oN8 ?_
    refine b_icmp_ge hX eX4_init_37 (tgt := 59) rfl ⟨by omega, by omega⟩ ⟨by omega, by omega⟩ (fun c9 => False.elim (by omega)) (fun c9 => ?_)
    refine b_aload_n hX eX4_init_40 rfl ?_
    refine b_getA (i := 0) (fs := [.ref pa, .ref ja, .ref oa, vz, vz]) hX eX4_init_41 fi_X4_11 rfl rfl ?_
    refine b_iload_n hX eX4_init_44 rfl ?_
    refine b_less (rc := 2 * n + 5 + 1 + 1) (rs := 12 * n + 30 + 5 + 7) ?_ (by omega) (by omega)
    refine b_new (rc := 2 * n + 5 + 1) (rs := 12 * n + 30 + 5) (ci := 3) (N := 7) (C := RX3) (T := TX3) (ty := tyX3) (fs := [.null, vz, vz, vz, vz, vz, vz]) hX eX4_init_45 rfl tyX3_ok cl_X4_9 inst_X3 ini_X3 (by (try simp only [vz, vl, oi0, ol0]); rfl) (fun v => ?_)
    refine b_dup hX eX4_init_48 rfl ?_
    refine b_init (rc := 2 * n + 5) (rs := 12 * n + 30) (mc := 1) (ms := 5) (M' := MX3_init) (d := d + 1) hX eX4_init_49 ok_MX3_init ml_X4_27 im_X3 ini_X3 rfl rfl rfl (Nat.le_of_ble_eq_true rfl) (c_X3_init _) (w := R4 (TC X) q pa ja oa i 0 P K (fun _ => 0)) rfl (fun w9 hw9 => ?_)
    obtain ⟨a, rfl⟩ := hw9
    refine b_astq (n := 8) (t := 3) (ci := 3) (r := (RX3, TX3, 7)) (vs := [.ref a, vz, vz, vz, vz, vz, .int (Int32.ofInt 1)]) (A9 := [_]) (B9 := (ja, aQ (TC X 4) 5 0 (fun _ => 0)) :: (oa, aI (TC X 0) 8) :: (pups (TC X) P K i ++ prjs (fun _ => 0) 0) ++ [(v, .inr (3, [.ref a, vz, vz, vz, vz, vz, .int (Int32.ofInt 1)])), (a, aF (TC X 0) 5 5 6)]) hX eX4_init_52 rfl rfl (by simp) rfl ⟨by omega, by omega⟩ (by decide) ?_
    rw [up_fill]
    refine b_iinc hX eX4_init_53 rfl rfl rfl ?_
    refine b_goto hX eX4_init_56 (tgt := 31) rfl ?_
    have t := ih (i + 1) (fx P i v) (fx K i a) (by omega)
    rw [show ((i + 1 : Nat) : Int) = (i : Int) + 1 by omega] at t
    refine b_cast ?_ t
    unfold R4
    rw [pups_step]
    simp only [prjs, List.range_zero, List.flatMap_nil, List.append_nil, List.cons_append, List.nil_append, List.append_assoc]
set_option maxHeartbeats 1000000 in
theorem c_X4_init (d : Nat) : CtI (d + 2) MX4_init (.inr (4, [.null, .null, .null, vz, vz])) 24 147 Q4 := by
  refine ctorOf ok_MX4_init (Nat.le_of_ble_eq_true rfl) (fun X q hX hR => ?_)
  show BW X 24 147 0 [some (mA q), none] [] [(q, .inr (4, [.null, .null, .null, vz, vz]))]
  refine b_aload_n hX eX4_init_0 rfl ?_
  refine b_objinit hX eX4_init_1 oi_X4_3 ?_
  refine b_aload_n hX eX4_init_4 rfl ?_
  refine b_bipush hX eX4_init_5 (by decide) ?_
  refine b_newq (rc := 23) (rs := 139) (t := 3) (n := 8) (C := "WishSharer$Pupil") hX eX4_init_7 rfl cl_X4_9 (fun s h => h.2.1) ⟨rfl, by decide⟩ (fun pa => ?_)
  refine b_putA (fs := [.null, .null, .null, vz, vz]) (fs' := [.ref pa, .null, .null, vz, vz]) hX rfl eX4_init_10 fi_X4_11 rfl rfl (Nat.le_of_ble_eq_true rfl) rfl ?_
  refine b_aload_n hX eX4_init_13 rfl ?_
  refine b_iconst hX eX4_init_14 ?_
  refine b_newq (rc := 22) (rs := 134) (t := 4) (n := 5) (C := "WishSharer$Project") hX eX4_init_15 rfl cl_X4_17 (fun s h => h.2.2) ⟨rfl, by decide⟩ (fun ja => ?_)
  refine b_putA (fs := [.ref pa, .null, .null, vz, vz]) (fs' := [.ref pa, .ref ja, .null, vz, vz]) hX rfl eX4_init_18 fi_X4_19 rfl rfl (Nat.le_of_ble_eq_true rfl) rfl ?_
  refine b_aload_n hX eX4_init_21 rfl ?_
  refine b_bipush hX eX4_init_22 (by decide) ?_
  refine b_newa (rc := 21) (rs := 126) (t := 0) (n := 8) (ty := .int) (a0 := (8, .inl (fun _ => Int32.ofInt 0))) hX eX4_init_24 rfl rfl ac_int a0I ⟨rfl, by decide⟩ (by decide) (fun oa => ?_)
  refine b_putA (fs := [.ref pa, .ref ja, .null, vz, vz]) (fs' := [.ref pa, .ref ja, .ref oa, vz, vz]) hX rfl eX4_init_26 fi_X4_23 rfl rfl (Nat.le_of_ble_eq_true rfl) rfl ?_
  refine b_iconst hX eX4_init_29 ?_
  refine b_istore_n hX eX4_init_30 rfl rfl ?_
  refine b_cast (h' := R4 (TC X) q pa ja oa 0 0 (fun _ => 0) (fun _ => 0) (fun _ => 0)) ?_ (roll_loop1 hX hR 8 0 (fun _ => 0) (fun _ => 0) rfl)
  simp [R4, pups, prjs]
