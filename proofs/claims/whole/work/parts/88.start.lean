/-! YOUR PART of the skeleton: from the entry to the end -/
theorem nwl_in : ∀ w ∈ NWL, w ∈ lw_tbl := by decide +kernel
theorem nsb_in : ∀ w ∈ NSB, w ∈ lw_tbl := by decide +kernel
theorem tb_in {w : Cond} (h : w ∈ TB) : w ∈ lw_tbl := (List.mem_filter.mp h).1
set_option maxHeartbeats 4000000 in
theorem known9 {s : State} {args : Array Value} (hTB : ∀ w ∈ TB, w.before args s = true) : ∃ D : va_G, ∀ (k : Nat) (q : vw_C), vwCl[k]? = some q → u_Kn s q.1 q.2.1 q.2.2 (D.1 k) (D.2 k) := by
  obtain ⟨c0, i0, k0⟩ := u_known (C := RX0) (T := TX0) (N := 2) (n := 2) hTB ws_in_0 (hTB _ inst_X0)
  obtain ⟨c1, i1, k1⟩ := u_known (C := RX1) (T := TX1) (N := 3) (n := 3) hTB ws_in_1 (hTB _ inst_X1)
  obtain ⟨c2, i2, k2⟩ := u_known (C := RX2) (T := TX2) (N := 6) (n := 6) hTB ws_in_2 (hTB _ inst_X2)
  obtain ⟨c3, i3, k3⟩ := u_known (C := RX3) (T := TX3) (N := 7) (n := 7) hTB ws_in_3 (hTB _ inst_X3)
  obtain ⟨c4, i4, k4⟩ := u_known (C := RX4) (T := TX4) (N := 5) (n := 5) hTB ws_in_4 (hTB _ inst_X4)
  obtain ⟨c5, i5, k5⟩ := u_known (C := RX5) (T := TX5) (N := 2) (n := 2) hTB ws_in_5 (hTB _ inst_X5)
  obtain ⟨c6, i6, k6⟩ := u_known (C := RX6) (T := TX6) (N := 12) (n := 12) hTB ws_in_6 (hTB _ inst_X6)
  obtain ⟨c7, i7, k7⟩ := u_known (C := RX7) (T := TX7) (N := 8) (n := 8) hTB ws_in_7 (hTB _ inst_X7)
  obtain ⟨c8, i8, k8⟩ := u_known (C := RX8) (T := TX8) (N := 37) (n := 37) hTB ws_in_8 (hTB _ inst_X8)
  refine ⟨(fun k => match k with
    | 0 => c0
    | 1 => c1
    | 2 => c2
    | 3 => c3
    | 4 => c4
    | 5 => c5
    | 6 => c6
    | 7 => c7
    | _ => c8, fun k => match k with
    | 0 => i0
    | 1 => i1
    | 2 => i2
    | 3 => i3
    | 4 => i4
    | 5 => i5
    | 6 => i6
    | 7 => i7
    | _ => i8), ?_⟩
  intro k q hq
  match k, hq with
  | 0, hq => cases hq; exact k0
  | 1, hq => cases hq; exact k1
  | 2, hq => cases hq; exact k2
  | 3, hq => cases hq; exact k3
  | 4, hq => cases hq; exact k4
  | 5, hq => cases hq; exact k5
  | 6, hq => cases hq; exact k6
  | 7, hq => cases hq; exact k7
  | 8, hq => cases hq; exact k8
  | k + 9, hq => simp [vwCl] at hq
theorem arr_prim {s : State} {args : Array Value} {ty : FieldType} (hno : ∀ C, ty ≠ .object C) (h : (Cond.arrayClass ty).before args s = true) : ∃ c : ClassId, ArrOfT s c ty ∧ va_RA s c ty := by
  obtain ⟨c, k, comp, h1, h2, h3⟩ := Cond.arrayClass_spec h
  refine ⟨c, fun n z => ⟨fun k h => (by cases h), k, h2, comp, h3⟩, ?_⟩
  cases ty with
  | object C => exact absurd rfl (hno C)
  | _ => exact h1
theorem arr_obj {s : State} {C : String} (h : va_AO C s) : ∃ c : ClassId, ArrOfT s c (.object C) ∧ va_RA s c (.object C) := by
  obtain ⟨comp, c, k, h1, h2, h3, h4, h5⟩ := Cond.arrayOver_spec h
  exact ⟨c, fun n z => ⟨fun k h => (by cases h), k, h3, comp, h4⟩, k, comp, h3, h4, h1, h5⟩
theorem known5 {s : State} {args : Array Value} (hTB : ∀ w ∈ TB, w.before args s = true) (a1 : va_AO "WishSharer$Pupil" s) (a2 : va_AO "WishSharer$Project" s) : ∃ tc : Nat → ClassId, ∀ (k : Nat) (q : ClassId × FieldType), (TY tc)[k]? = some q → ArrOfT s q.1 q.2 ∧ va_RA s q.1 q.2 := by
  obtain ⟨c0, k0⟩ := arr_prim (fun C h => by cases h) (hTB _ ac_int)
  obtain ⟨c1, k1⟩ := arr_prim (fun C h => by cases h) (hTB _ ac_boolean)
  obtain ⟨c2, k2⟩ := arr_prim (fun C h => by cases h) (hTB _ ac_long)
  obtain ⟨c3, k3⟩ := arr_obj a1
  obtain ⟨c4, k4⟩ := arr_obj a2
  refine ⟨fun k => match k with
    | 0 => c0
    | 1 => c1
    | 2 => c2
    | 3 => c3
    | _ => c4, ?_⟩
  intro k q hq
  match k, hq with
  | 0, hq => cases hq; exact k0
  | 1, hq => cases hq; exact k1
  | 2, hq => cases hq; exact k2
  | 3, hq => cases hq; exact k3
  | 4, hq => cases hq; exact k4
  | k + 5, hq => simp [TY] at hq
set_option maxHeartbeats 4000000 in
theorem whole_start {p : Program} {e : Env} {s : State} {m : MethodId} {below : List Frame} {meth : Method} {c : Code} (l : Launch) (hflags : l.flags = flags0) {b L : Nat} {xs : Nat → Int32} (hL : L ≤ 3072) (C0 : lw_At p s m meth c b L xs) : W p l e room_1 s m #[Value.ref b] below meth c s.heap [] 0 0 (lw_Z below #[Value.ref b] s) (entryFrame m ([Value.ref b] : List Value).toArray 7) := by
  obtain ⟨hx, hb, hr, hml, hown, hts, hXs, hbl, hlocks, hgv⟩ := id C0
  have hst : l.stackTraces = false := by
    unfold Launch.stackTraces
    rw [hflags]
    decide +kernel
  have hTB : ∀ w ∈ TB, w.before #[Value.ref b] s = true := fun w hw => hts w (tb_in hw)
  have hNW : NW s := ⟨fun w hw => va_Nw.of (nwl_tab w hw) (hts w (nwl_in w hw)), va_AO.of (hts _ ao_Pupil), va_AO.of (hts _ ao_Project)⟩
  have hNE : NEST s := va_Nw.of rfl (hts _ nl_N)
  have hA : ∀ q : Nat, s.heap.size ≤ q → (fun q : Nat => s.heap.size ≤ q) q := fun _ h => h
  have hbA : ¬ (fun q : Nat => s.heap.size ≤ q) b := Nat.not_le.mpr hbl
  have hgs := flat_of_before _ hgv
  have hth : TH (fun q : Nat => s.heap.size ≤ q) s s.heap := ⟨fun w hw => va_Nw.of (nsb_tab w hw) (hts w (nsb_in w hw)),
    vx_Zqof (hts _ (by decide +kernel)) (hts _ (by decide +kernel)) (hgs _ (by decide +kernel)) (fun a h1 h2 => Nat.not_le.mpr h1 h2),
    vx_Zqof (hts _ (by decide +kernel)) (hts _ (by decide +kernel)) (hgs _ (by decide +kernel)) (fun a h1 h2 => Nat.not_le.mpr h1 h2)⟩
  obtain ⟨D, hKc⟩ := known9 hTB
  obtain ⟨tc, hKt⟩ := known5 hTB hNW.2.1 hNW.2.2
  have hK : va_K D vwCl (TY tc) s := ⟨hKc, hKt⟩
  have hP : va_P D vwCl [] s.heap := fun k q h => by simp at h
  have hD : va_D (fun q : Nat => s.heap.size ≤ q) [] := ⟨fun i j p q h => by simp at h, fun k q h => by simp at h⟩
  have hB : Bx 21 ML_law (p, l, e, room_1, s, m, #[Value.ref b], below, meth, c, tc, D, (fun q : Nat => s.heap.size ≤ q), lw_Z below #[Value.ref b] s) :=
    ⟨hx, hb, hml, hr, hown, hTB, hlocks, hK, hA, by decide, by decide, hNW, fun h => absurd h (by decide)⟩
  have hl := lv_entry [Value.ref b] (n := 7) (Nat.le_of_ble_eq_true rfl)
  rw [lg_entry_eq]
  have main : BW (p, l, e, room_1, s, m, #[Value.ref b], below, meth, c, tc, D, (fun q : Nat => s.heap.size ≤ q), lw_Z below #[Value.ref b] s) ((L / 6 + 1) + 1 + 23 + 1 + 43 + 1) (6 * (L / 6 + 1) + 1 + 1297 + 37 + 1791 + 8) 0 [some (mA b), none, none, none, none, none, none] [] [] := by
    refine b_new (rc := (L / 6 + 1) + 1 + 23 + 1 + 43) (rs := 6 * (L / 6 + 1) + 1 + 1297 + 37 + 1791) (ci := 7) (N := 8) (C := RX7) (T := TX7) (ty := tyX7) (fs := [.null, .null, .null, .null, .null, .null, .null, vz]) hB eL_law_0 rfl tyX7_ok cl_L_8 inst_X7 ini_X7 (by (try simp only [vz, vl, oi0, ol0]); rfl) (fun q7 => ?_)
    refine b_dup hB eL_law_3 rfl ?_
    refine b_init (rc := (L / 6 + 1) + 1 + 23 + 1) (rs := 6 * (L / 6 + 1) + 1 + 1297 + 37) (mc := 43) (ms := 1791) (M' := MX7_init) (d := 20) hB eL_law_4 ok_MX7_init ml_L_19 im_X7 ini_X7 rfl rfl rfl (Nat.le_of_ble_eq_true rfl) (c_X7_init 17) (w := []) rfl (fun w7 hw7 => ?_)
    refine b_astore_n hB eL_law_7 rfl rfl ?_
    refine b_new (rc := (L / 6 + 1) + 1 + 23) (rs := 6 * (L / 6 + 1) + 1 + 1297) (ci := 8) (N := 37) (C := RX8) (T := TX8) (ty := tyX8) (fs := [vz, vz, .null, .null, .null, .null, .null, .null, .null, .null, .null, vz, .null, .null, .null, .null, .null, .null, vz, vz, vz, .null, .null, vz, vz, vz, vz, vz, vz, .null, .null, vz, .null, .null, .null, .null, vz]) hB eL_law_8 rfl tyX8_ok cl_L_20 inst_X8 ini_X8 (by (try simp only [vz, vl, oi0, ol0]); rfl) (fun q8 => ?_)
    refine b_dup hB eL_law_11 rfl ?_
    refine b_init (rc := (L / 6 + 1) + 1) (rs := 6 * (L / 6 + 1) + 1) (mc := 23) (ms := 1297) (M' := MX8_init) (d := 20) hB eL_law_12 ok_MX8_init ml_L_22 im_X8 ini_X8 rfl rfl rfl (Nat.le_of_ble_eq_true rfl) (c_X8_init 19) rfl (fun w8 hw8 => ?_)
    refine b_astore_n hB eL_law_15 rfl rfl ?_
    refine b_iconst hB eL_law_16 ?_
    refine b_newa (rc := L / 6 + 1) (rs := 6 * (L / 6 + 1)) (t := 2) (n := 1) (ty := .long) (a0 := (1, .inr (.inl (fun _ => Int64.ofInt 0)))) hB eL_law_17 rfl rfl ac_long a0L ⟨rfl, by decide⟩ (by decide) (fun q9 => ?_)
    refine b_astore_n hB eL_law_19 rfl rfl ?_
    refine b_iconst hB eL_law_20 ?_
    refine b_istore hB eL_law_21 rfl rfl ?_
    obtain ⟨al, a0, a44, a68, a69, hs⟩ := world_end q9 b hw7 hw8
    refine b_to_v (al := al) (ls' := LSl 0 none none) (g := hZ) isL isL_nd hs ?_ ?_
    · intro i v hi
      match i, hi with
      | 0, hi => cases hi; exact ⟨mA b, rfl, congrArg Value.ref a69.symm⟩
      | 1, hi => cases hi; exact ⟨mA q7, rfl, congrArg Value.ref a0.symm⟩
      | 2, hi => cases hi; exact ⟨mA q8, rfl, congrArg Value.ref a44.symm⟩
      | 3, hi => cases hi; exact ⟨mA q9, rfl, congrArg Value.ref a68.symm⟩
      | 4, hi => cases hi; exact ⟨mI 0, rfl, rfl⟩
      | 5, hi => cases hi
      | 6, hi => cases hi
      | i + 7, hi => simp at hi
    · refine law_loop (fun rc rs => ⟨hx, hb, hml, hr, hown, hTB, hlocks, hK, hA, by decide, by decide, hNE⟩) (fun rc rs => ⟨a69, hXs, hbl, hbA⟩) hst hth hL ?_ (L / 6 + 1) 0 hZ hZ_REL (by omega) (by omega) none none
      intro rc rs ls g H locs la cells slots hP hD hS hl h1 h2
      have h1 : cells + rc ≤ 601024 := h1
      have h2 : slots + rs ≤ 7293034 := h2
      refine va_forget (fun q hq => hS.2.2 q hq) ?_
      refine W.widen (k := 601024) (n := 7293034) (by omega) (by omega) ?_
      have e1 : (.int (Int32.ofInt 1) : Value) = .int 1 := by decide +kernel
      show W p l e room_1 s m #[Value.ref b] below meth c H [] 601024 7293034 (lw_Z below #[Value.ref b] s) (F0 m 1041 la [.int (Int32.ofInt 1)])
      rw [e1]
      exact lw_ret hx hb hr hlocks eL_law_1041.1
  exact main s.heap [] _ 0 0 hP hD va_S.rf ⟨by rw [hml]; exact hl.1, hl.2.1, fun i v hi => by
    have := hl.2.2 _ (show _ ∈ lv_args 0 [Value.ref b] from entL_ok id [mA b] 7 i 0 v hi)
    simpa using this⟩ (by show 0 + _ ≤ 601024; omega) (by show 0 + _ ≤ 7293034; omega)
