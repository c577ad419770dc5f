/-! the law: of, row, and its loop -/
theorem v_less {p9 : Program} {l : Launch} {e : Env} {R : Room} {s : State} {m : MethodId} {args : Array Value} {below : List Frame} {meth : Method} {c : Code} {al : Nat → Nat} {tc : Nat → ClassId} {D : va_G} {A : Nat → Prop} {Z : State → Prop} {rc rs rc2 rs2 pc : Nat} {ls : List (Option MV)} {st : List MV} {h : Hp} (k : VW (p9, l, e, R, s, m, args, below, meth, c, al, tc, D, A, Z, rc, rs) pc ls st h) (h1 : rc ≤ rc2) (h2 : rs ≤ rs2) : VW (p9, l, e, R, s, m, args, below, meth, c, al, tc, D, A, Z, rc2, rs2) pc ls st h :=
  fun H locs la cells slots hP hD hS hl q1 q2 => k H locs la cells slots hP hD hS hl (by omega) (by omega)
set_option maxHeartbeats 2000000 in
set_option maxRecDepth 20000 in
theorem lc_of {p9 : Program} {l : Launch} {e : Env} {R : Room} {s : State} {m : MethodId} {args : Array Value} {below : List Frame} {meth : Method} {c : Code} {al : Nat → Nat} {tc : Nat → ClassId} {D : va_G} {A : Nat → Prop} {Z : State → Prop} {rc rs b L k : Nat} {xs : Nat → Int32} {h : Hp} (hX1 : Cx 21 ML_law (p9, l, e, R, s, m, args, below, meth, c, al, tc, D, A, Z, rc + 1, rs + 6)) (hSC1 : SCR b L xs (p9, l, e, R, s, m, args, below, meth, c, al, tc, D, A, Z, rc + 1, rs + 6)) (hl0 : l.stackTraces = false) (hth : TH A s s.heap) (hL : L ≤ 3072) (hk : 6 * k + 6 ≤ L) (g : REL h) (cont : ∀ g, REL g → ∀ l5 l6, VW (p9, l, e, R, s, m, args, below, meth, c, al, tc, D, A, Z, rc, rs) 1034 (LSl k l5 l6) [] g) (l5 l6 : Option MV) : VW (p9, l, e, R, s, m, args, below, meth, c, al, tc, D, A, Z, rc + 1, rs + 6) 646 (LSl k l5 l6) [] h := by
  have hX2 : Cx 21 ML_law (p9, l, e, R, s, m, args, below, meth, c, al, tc, D, A, Z, rc, rs) := Cx_room rc rs hX1
  have hSC2 : SCR b L xs (p9, l, e, R, s, m, args, below, meth, c, al, tc, D, A, Z, rc, rs) := SCR_room rc rs hSC1
  obtain ⟨hI, r, hl, ap, o, fr⟩ := id g.1.1
  have hn := hI.n
  have hPL := PLI_of hI g.1.2.2.1
  have en : h 44 1 = h 1 3 := r.n
  have at660 : ∀ p w, p = sv xs ((((6 * k : Nat) : Int) + 1).toNat) → w = sv xs ((((6 * k : Nat) : Int) + 2).toNat) → VW (p9, l, e, R, s, m, args, below, meth, c, al, tc, D, A, Z, rc + 1, rs + 6) 660 (LSl k l5 l6) [mA 68, mI w, mI p, mA 0] h := by
    intro p w hp hw
    have rp : rng p := by rw [hp]; exact sv_rng _ _
    have rw9 : rng w := by rw [hw]; exact sv_rng _ _
    by_cases ok : inN h p ∧ 0 ≤ w ∧ w ≤ 6
    · obtain ⟨⟨p1, p2⟩, wok⟩ := ok
      have rr := ofV_rng hI hPL o (p := p.toNat) (by omega) w
      refine v_callL (M' := ML_of) (rc := rc) (rs := rs) (st := []) hX1 hl0 hth eL_law_660 ml_of st_of in_law cw_of (by decide) ⟨by decide +kernel, by decide +kernel, by decide +kernel⟩ rfl (by decide) (c_L_of (d := 13) hI hPL o ⟨p1, p2⟩ wok) rfl (fun r g1 hq => ?_)
      obtain ⟨rfl, hg1⟩ := hq
      have R1 : REL g1 := by rw [hg1]; exact g.o68
      have R2 := R1.t0 (v := 0)
      have e68 : up g1 44 0 0 68 0 = ofV h p.toNat w := by rw [up_ob (by decide), hg1, up_same]
      have ev : ofV (up g1 44 0 0) p.toNat w = ofV h p.toNat w := ofV_o (by omega) (fun a h1 h2 => by rw [up_obf h1, hg1, up_obf h2])
      have n1 : up g1 44 0 0 1 = h 1 := by rw [up_obf (by decide), hg1, up_obf (by decide)]
      have c8 := c_X8_of (d := 18) (h := g1) (g := up g1 44 0 0) (p := p.toNat) (w := w) rfl R2.1.1.1 R2.1.1.2.1 R2.1.2.1.1 R2.1.1.2.2.2.2.1 R2.1.2.2.1.1 (by rw [n1]; omega) wok
      rw [ev, show ((p.toNat : Nat) : Int) = p by omega] at c8
      have hX := hX2
      have hSC := hSC2
      show VW _ 663 _ [mI 0] g1
      refine v_istore hX eL_law_663 rfl rfl ?_
      refine v_aload_n hX eL_law_665 rfl ?_
      refine v_aload_n hX eL_law_666 rfl ?_
      refine v_iload hX eL_law_667 rfl ?_
      refine v_iconst hX eL_law_669 ?_
      refine v_iadd hX eL_law_670 ?_
      refine v_sld hX hSC hL eL_law_671 ⟨by omega, by omega⟩ ?_
      try simp only [Int.toNat_natCast, Int.toNat_zero, Int.reduceToNat]
      rw [← hp]
      refine v_aload_n hX eL_law_672 rfl ?_
      refine v_iload hX eL_law_673 rfl ?_
      refine v_iconst hX eL_law_675 ?_
      refine v_iadd hX eL_law_676 ?_
      refine v_sld hX hSC hL eL_law_677 ⟨by omega, by omega⟩ ?_
      try simp only [Int.toNat_natCast, Int.toNat_zero, Int.reduceToNat]
      rw [← hw]
      refine v_fnV hX eL_law_678 lV_L_72 ok_MX8_of ⟨by decide, rfl⟩ rfl ⟨rfl, Nat.le_of_ble_eq_true rfl⟩ (Nat.le_of_ble_eq_true rfl) (c8) rfl ?_
      try simp only [Int.toNat_natCast, Int.toNat_zero, Int.reduceToNat]
      refine v_istore hX eL_law_681 rfl rfl ?_
      refine v_aload_n hX eL_law_683 rfl ?_
      refine v_fnV hX eL_law_684 lV_L_73 ok_MX8_thrown ⟨by decide, rfl⟩ rfl ⟨rfl, Nat.le_of_ble_eq_true rfl⟩ (Nat.le_of_ble_eq_true rfl) (c_X8_thrown (d := 20)) rfl ?_
      try simp only [Int.toNat_natCast, Int.toNat_zero, Int.reduceToNat]
      rw [up_same]
      refine v_iload hX eL_law_687 rfl ?_
      refine v_icmp_eq hX eL_law_689 (tgt := 694) rfl ⟨by omega, by omega⟩ ⟨by omega, by omega⟩ (fun c689 => ?_) (fun c689 => False.elim ((c689 rfl)))
      refine v_iload hX eL_law_694 rfl ?_
      refine v_if_ne hX eL_law_696 (tgt := 711) rfl ⟨by omega, by omega⟩ (fun c696 => False.elim ((c696 rfl))) (fun c696 => ?_)
      refine v_aload_n hX eL_law_699 rfl ?_
      refine v_iconst hX eL_law_700 ?_
      refine v_lald hX eL_law_701 (by first | exact ⟨by decide, rfl⟩ | exact hk | exact hk2 | exact AR_rk (by omega)) ⟨by omega, by omega⟩ ?_
      try simp only [Int.toNat_natCast, Int.toNat_zero, Int.reduceToNat]
      rw [e68]
      refine v_iload hX eL_law_702 rfl ?_
      refine v_i2l hX eL_law_704 rr ?_
      refine v_lcmp hX eL_law_705 ⟨by omega, by omega⟩ ⟨by omega, by omega⟩ ?_
      refine v_if_eq hX eL_law_706 (tgt := 711) rfl (lcm_rng _ _) (fun c706 => ?_) (fun c706 => False.elim ((c706 (lcm_eq.mpr rfl))))
      refine v_goto hX eL_law_711 (tgt := 1034) rfl ?_
      exact cont _ R2 _ _
    · refine v_callL (M' := ML_of) (rc := rc) (rs := rs) (st := []) hX1 hl0 hth eL_law_660 ml_of st_of in_law cw_of (by decide) ⟨by decide +kernel, by decide +kernel, by decide +kernel⟩ rfl (by decide) (c_L_ofN (d := 13) hI rp rw9 ok) rfl (fun r g1 hq => ?_)
      obtain ⟨rfl, rfl⟩ := hq
      have c8 := c_X8_of_N (d := 18) (h := g1) (g := up g1 44 0 0) (p := p) (w := w) rfl (by rw [up_ne (by omega)]; omega) rp rw9 (by rw [up_ne (by omega), en]; exact ok)
      have R2 := (g.t0 (v := 0)).t0 (v := 1)
      have hX := hX2
      have hSC := hSC2
      show VW _ 663 _ [mI 1] g1
      refine v_istore hX eL_law_663 rfl rfl ?_
      refine v_aload_n hX eL_law_665 rfl ?_
      refine v_aload_n hX eL_law_666 rfl ?_
      refine v_iload hX eL_law_667 rfl ?_
      refine v_iconst hX eL_law_669 ?_
      refine v_iadd hX eL_law_670 ?_
      refine v_sld hX hSC hL eL_law_671 ⟨by omega, by omega⟩ ?_
      try simp only [Int.toNat_natCast, Int.toNat_zero, Int.reduceToNat]
      rw [← hp]
      refine v_aload_n hX eL_law_672 rfl ?_
      refine v_iload hX eL_law_673 rfl ?_
      refine v_iconst hX eL_law_675 ?_
      refine v_iadd hX eL_law_676 ?_
      refine v_sld hX hSC hL eL_law_677 ⟨by omega, by omega⟩ ?_
      try simp only [Int.toNat_natCast, Int.toNat_zero, Int.reduceToNat]
      rw [← hw]
      refine v_fnV hX eL_law_678 lV_L_72 ok_MX8_of ⟨by decide, rfl⟩ rfl ⟨rfl, Nat.le_of_ble_eq_true rfl⟩ (Nat.le_of_ble_eq_true rfl) (c8) rfl ?_
      try simp only [Int.toNat_natCast, Int.toNat_zero, Int.reduceToNat]
      refine v_istore hX eL_law_681 rfl rfl ?_
      refine v_aload_n hX eL_law_683 rfl ?_
      refine v_fnV hX eL_law_684 lV_L_73 ok_MX8_thrown ⟨by decide, rfl⟩ rfl ⟨rfl, Nat.le_of_ble_eq_true rfl⟩ (Nat.le_of_ble_eq_true rfl) (c_X8_thrown (d := 20)) rfl ?_
      try simp only [Int.toNat_natCast, Int.toNat_zero, Int.reduceToNat]
      rw [up_same]
      refine v_iload hX eL_law_687 rfl ?_
      refine v_icmp_eq hX eL_law_689 (tgt := 694) rfl ⟨by omega, by omega⟩ ⟨by omega, by omega⟩ (fun c689 => ?_) (fun c689 => False.elim ((c689 rfl)))
      refine v_iload hX eL_law_694 rfl ?_
      refine v_if_ne hX eL_law_696 (tgt := 711) rfl ⟨by omega, by omega⟩ (fun c696 => ?_) (fun c696 => False.elim ((by omega)))
      refine v_goto hX eL_law_711 (tgt := 1034) rfl ?_
      exact cont _ R2 _ _
  have hX := hX1
  have hSC := hSC1
  refine v_aload_n hX eL_law_646 rfl ?_
  refine v_aload_n hX eL_law_647 rfl ?_
  refine v_iload hX eL_law_648 rfl ?_
  refine v_iconst hX eL_law_650 ?_
  refine v_iadd hX eL_law_651 ?_
  refine v_sld hX hSC hL eL_law_652 ⟨by omega, by omega⟩ ?_
  try simp only [Int.toNat_natCast, Int.toNat_zero, Int.reduceToNat]
  refine v_aload_n hX eL_law_653 rfl ?_
  refine v_iload hX eL_law_654 rfl ?_
  refine v_iconst hX eL_law_656 ?_
  refine v_iadd hX eL_law_657 ?_
  refine v_sld hX hSC hL eL_law_658 ⟨by omega, by omega⟩ ?_
  try simp only [Int.toNat_natCast, Int.toNat_zero, Int.reduceToNat]
  refine v_aload_n hX eL_law_659 rfl ?_
  exact at660 _ _ rfl rfl
set_option maxHeartbeats 2000000 in
set_option maxRecDepth 20000 in
theorem lc_row {p9 : Program} {l : Launch} {e : Env} {R : Room} {s : State} {m : MethodId} {args : Array Value} {below : List Frame} {meth : Method} {c : Code} {al : Nat → Nat} {tc : Nat → ClassId} {D : va_G} {A : Nat → Prop} {Z : State → Prop} {rc rs b L k : Nat} {xs : Nat → Int32} {h : Hp} (hX1 : Cx 21 ML_law (p9, l, e, R, s, m, args, below, meth, c, al, tc, D, A, Z, rc + 1, rs + 6)) (hSC1 : SCR b L xs (p9, l, e, R, s, m, args, below, meth, c, al, tc, D, A, Z, rc + 1, rs + 6)) (hl0 : l.stackTraces = false) (hth : TH A s s.heap) (hL : L ≤ 3072) (hk : 6 * k + 6 ≤ L) (g : REL h) (cont : ∀ g, REL g → ∀ l5 l6, VW (p9, l, e, R, s, m, args, below, meth, c, al, tc, D, A, Z, rc, rs) 1034 (LSl k l5 l6) [] g) (l5 l6 : Option MV) : VW (p9, l, e, R, s, m, args, below, meth, c, al, tc, D, A, Z, rc + 1, rs + 6) 978 (LSl k l5 l6) [] h := by
  have hX2 : Cx 21 ML_law (p9, l, e, R, s, m, args, below, meth, c, al, tc, D, A, Z, rc, rs) := Cx_room rc rs hX1
  have hSC2 : SCR b L xs (p9, l, e, R, s, m, args, below, meth, c, al, tc, D, A, Z, rc, rs) := SCR_room rc rs hSC1
  obtain ⟨h7, h36, h67⟩ := id g.1.2.2.2.2
  have at986 : ∀ i, i = sv xs ((((6 * k : Nat) : Int) + 1).toNat) → VW (p9, l, e, R, s, m, args, below, meth, c, al, tc, D, A, Z, rc + 1, rs + 6) 986 (LSl k l5 l6) [mA 68, mI i, mA 0] h := by
    intro i hi
    have ri : rng i := by rw [hi]; exact sv_rng _ _
    by_cases ok : 0 ≤ i ∧ i < h 0 7
    · have h6 := h67 i.toNat (by omega)
      refine v_callL (M' := ML_row) (rc := rc) (rs := rs) (st := []) hX1 hl0 hth eL_law_986 ml_row st_row in_law cw_row (by decide) ⟨by decide +kernel, by decide +kernel, by decide +kernel⟩ rfl (by decide) (c_L_row (d := 13) h7 ok h6.2) rfl (fun r g1 hq => ?_)
      obtain ⟨rfl, hg1⟩ := hq
      have R1 : REL g1 := by rw [hg1]; exact g.o68
      have R2 := R1.t0 (v := 0)
      have e68 : up g1 44 0 0 68 0 = h 5 i.toNat := by rw [up_ob (by decide), hg1, up_same]
      have e36 : up g1 44 0 0 44 36 = h 0 7 := by rw [up_ne (by omega), hg1, up_ob (by decide)]; exact h36
      have e67 : up g1 44 0 0 67 i.toNat = h 5 i.toNat := by rw [up_ob (by decide), hg1, up_ob (by decide)]; exact h6.1
      have c8 := c_X8_row (d := 19) (h := g1) (g := up g1 44 0 0) (i := i) rfl (by rw [e36]; exact h7) (by rw [e36]; exact ok)
      rw [e67] at c8
      have rr := h6.2
      have hX := hX2
      have hSC := hSC2
      show VW _ 989 _ [mI 0] g1
      refine v_istore hX eL_law_989 rfl rfl ?_
      refine v_aload_n hX eL_law_991 rfl ?_
      refine v_aload_n hX eL_law_992 rfl ?_
      refine v_iload hX eL_law_993 rfl ?_
      refine v_iconst hX eL_law_995 ?_
      refine v_iadd hX eL_law_996 ?_
      refine v_sld hX hSC hL eL_law_997 ⟨by omega, by omega⟩ ?_
      try simp only [Int.toNat_natCast, Int.toNat_zero, Int.reduceToNat]
      rw [← hi]
      refine v_fnV hX eL_law_998 lV_L_129 ok_MX8_row ⟨by decide, rfl⟩ rfl ⟨rfl, Nat.le_of_ble_eq_true rfl⟩ (Nat.le_of_ble_eq_true rfl) (c8) rfl ?_
      try simp only [Int.toNat_natCast, Int.toNat_zero, Int.reduceToNat]
      refine v_istore hX eL_law_1001 rfl rfl ?_
      refine v_aload_n hX eL_law_1003 rfl ?_
      refine v_fnV hX eL_law_1004 lV_L_73 ok_MX8_thrown ⟨by decide, rfl⟩ rfl ⟨rfl, Nat.le_of_ble_eq_true rfl⟩ (Nat.le_of_ble_eq_true rfl) (c_X8_thrown (d := 20)) rfl ?_
      try simp only [Int.toNat_natCast, Int.toNat_zero, Int.reduceToNat]
      rw [up_same]
      refine v_iload hX eL_law_1007 rfl ?_
      refine v_icmp_eq hX eL_law_1009 (tgt := 1014) rfl ⟨by omega, by omega⟩ ⟨by omega, by omega⟩ (fun c1009 => ?_) (fun c1009 => False.elim ((c1009 rfl)))
      refine v_iload hX eL_law_1014 rfl ?_
      refine v_if_ne hX eL_law_1016 (tgt := 1031) rfl ⟨by omega, by omega⟩ (fun c1016 => False.elim ((c1016 rfl))) (fun c1016 => ?_)
      refine v_aload_n hX eL_law_1019 rfl ?_
      refine v_iconst hX eL_law_1020 ?_
      refine v_lald hX eL_law_1021 (by first | exact ⟨by decide, rfl⟩ | exact hk | exact hk2 | exact AR_rk (by omega)) ⟨by omega, by omega⟩ ?_
      try simp only [Int.toNat_natCast, Int.toNat_zero, Int.reduceToNat]
      rw [e68]
      refine v_iload hX eL_law_1022 rfl ?_
      refine v_i2l hX eL_law_1024 rr ?_
      refine v_lcmp hX eL_law_1025 ⟨by omega, by omega⟩ ⟨by omega, by omega⟩ ?_
      refine v_if_eq hX eL_law_1026 (tgt := 1031) rfl (lcm_rng _ _) (fun c1026 => ?_) (fun c1026 => False.elim ((c1026 (lcm_eq.mpr rfl))))
      refine v_goto hX eL_law_1031 (tgt := 1034) rfl ?_
      exact cont _ R2 _ _
    · refine v_callL (M' := ML_row) (rc := rc) (rs := rs) (st := []) hX1 hl0 hth eL_law_986 ml_row st_row in_law cw_row (by decide) ⟨by decide +kernel, by decide +kernel, by decide +kernel⟩ rfl (by decide) (c_L_rowN (d := 13) h7 ri ok) rfl (fun r g1 hq => ?_)
      obtain ⟨rfl, rfl⟩ := hq
      have c8 := c_X8_row_N (d := 19) (h := g1) (g := up g1 44 0 0) (i := i) rfl (by rw [up_ne (by omega), h36]; exact h7) ri (by rw [up_ne (by omega), h36]; exact ok)
      have R2 := (g.t0 (v := 0)).t0 (v := 1)
      have hX := hX2
      have hSC := hSC2
      show VW _ 989 _ [mI 1] g1
      refine v_istore hX eL_law_989 rfl rfl ?_
      refine v_aload_n hX eL_law_991 rfl ?_
      refine v_aload_n hX eL_law_992 rfl ?_
      refine v_iload hX eL_law_993 rfl ?_
      refine v_iconst hX eL_law_995 ?_
      refine v_iadd hX eL_law_996 ?_
      refine v_sld hX hSC hL eL_law_997 ⟨by omega, by omega⟩ ?_
      try simp only [Int.toNat_natCast, Int.toNat_zero, Int.reduceToNat]
      rw [← hi]
      refine v_fnV hX eL_law_998 lV_L_129 ok_MX8_row ⟨by decide, rfl⟩ rfl ⟨rfl, Nat.le_of_ble_eq_true rfl⟩ (Nat.le_of_ble_eq_true rfl) (c8) rfl ?_
      try simp only [Int.toNat_natCast, Int.toNat_zero, Int.reduceToNat]
      refine v_istore hX eL_law_1001 rfl rfl ?_
      refine v_aload_n hX eL_law_1003 rfl ?_
      refine v_fnV hX eL_law_1004 lV_L_73 ok_MX8_thrown ⟨by decide, rfl⟩ rfl ⟨rfl, Nat.le_of_ble_eq_true rfl⟩ (Nat.le_of_ble_eq_true rfl) (c_X8_thrown (d := 20)) rfl ?_
      try simp only [Int.toNat_natCast, Int.toNat_zero, Int.reduceToNat]
      rw [up_same]
      refine v_iload hX eL_law_1007 rfl ?_
      refine v_icmp_eq hX eL_law_1009 (tgt := 1014) rfl ⟨by omega, by omega⟩ ⟨by omega, by omega⟩ (fun c1009 => ?_) (fun c1009 => False.elim ((c1009 rfl)))
      refine v_iload hX eL_law_1014 rfl ?_
      refine v_if_ne hX eL_law_1016 (tgt := 1031) rfl ⟨by omega, by omega⟩ (fun c1016 => ?_) (fun c1016 => False.elim ((by omega)))
      refine v_goto hX eL_law_1031 (tgt := 1034) rfl ?_
      exact cont _ R2 _ _
  have hX := hX1
  have hSC := hSC1
  refine v_aload_n hX eL_law_978 rfl ?_
  refine v_aload_n hX eL_law_979 rfl ?_
  refine v_iload hX eL_law_980 rfl ?_
  refine v_iconst hX eL_law_982 ?_
  refine v_iadd hX eL_law_983 ?_
  refine v_sld hX hSC hL eL_law_984 ⟨by omega, by omega⟩ ?_
  try simp only [Int.toNat_natCast, Int.toNat_zero, Int.reduceToNat]
  refine v_aload_n hX eL_law_985 rfl ?_
  exact at986 _ rfl
