/-! the loop of the law -/
set_option maxHeartbeats 2000000 in
set_option maxRecDepth 20000 in
theorem law_loop {p9 : Program} {l : Launch} {e : Env} {R : Room} {s : State} {m : MethodId} {args : Array Value} {below : List Frame} {meth : Method} {c : Code} {al : Nat → Nat} {tc : Nat → ClassId} {D : va_G} {A : Nat → Prop} {Z : State → Prop} {b L : Nat} {xs : Nat → Int32} (hX0 : ∀ rc rs, Cx 21 ML_law (p9, l, e, R, s, m, args, below, meth, c, al, tc, D, A, Z, rc, rs)) (hSC0 : ∀ rc rs, SCR b L xs (p9, l, e, R, s, m, args, below, meth, c, al, tc, D, A, Z, rc, rs)) (hl0 : l.stackTraces = false) (hth : TH A s s.heap) (hL : L ≤ 3072) (hend : ∀ rc rs ls g, VW (p9, l, e, R, s, m, args, below, meth, c, al, tc, D, A, Z, rc, rs) 1041 ls [mI 1] g) : ∀ (n k : Nat) (h : Hp), REL h → 6 * k ≤ L → L < 6 * k + 6 * n + 6 → ∀ l5 l6, VW (p9, l, e, R, s, m, args, below, meth, c, al, tc, D, A, Z, n, 6 * n) 23 (LSl k l5 l6) [] h := by
  intro n
  induction n with
  | zero =>
    intro k h g hkL hm l5 l6
    have hX := hX0 0 (6 * 0)
    have hSC := hSC0 0 (6 * 0)
    refine v_iload hX eL_law_23 rfl ?_
    refine v_aload_n hX eL_law_25 rfl ?_
    refine v_slen hX hSC eL_law_26 ?_
    refine v_bipush hX eL_law_27 (by decide) ?_
    refine v_isub hX eL_law_29 ?_
    refine v_icmp_gt hX eL_law_30 (tgt := 1040) rfl ⟨by omega, by omega⟩ ⟨by omega, by omega⟩ (fun c30 => ?_) (fun c30 => False.elim ((by omega)))
    refine v_iconst hX eL_law_1040 ?_
    exact hend _ _ _ _
  | succ n ih =>
    intro k h g hkL hm l5 l6
    have hX := hX0 (n + 1) (6 * n + 6)
    have hSC := hSC0 (n + 1) (6 * n + 6)
    have cont0 : 6 * k + 6 ≤ L → ∀ g, REL g → ∀ l5 l6, VW (p9, l, e, R, s, m, args, below, meth, c, al, tc, D, A, Z, n, 6 * n) 1034 (LSl k l5 l6) [] g := by
      intro hk g rel l5 l6
      have e9 : ((6 * (k + 1) : Nat) : Int) = ((6 * k : Nat) : Int) + 6 := by omega
      have t := ih (k + 1) g rel (by omega) (by omega) l5 l6
      unfold LSl at t
      rw [e9] at t
      refine v_iinc (hX0 n (6 * n)) eL_law_1034 rfl rfl rfl ?_
      exact v_goto (hX0 n (6 * n)) eL_law_1037 (tgt := 23) rfl t
    have sw : 6 * k + 6 ≤ L → ∀ v, 0 ≤ v ∧ v ≤ 31 → VW (p9, l, e, R, s, m, args, below, meth, c, al, tc, D, A, Z, n + 1, 6 * n + 6) 40 (LSl k l5 l6) [mI v] h := by
      intro hk v hv
      have cont : ∀ g, REL g → ∀ l5 l6, VW (p9, l, e, R, s, m, args, below, meth, c, al, tc, D, A, Z, n + 1, 6 * n + 6) 1034 (LSl k l5 l6) [] g := fun g rel l5 l6 => v_less (cont0 hk g rel l5 l6) (by omega) (by omega)
      by_cases v24 : v ≤ 23
      · rcases (show v = 0 ∨ v = 1 ∨ v = 2 ∨ v = 3 ∨ v = 4 ∨ v = 5 ∨ v = 6 ∨ v = 7 ∨ v = 8 ∨ v = 9 ∨ v = 10 ∨ v = 11 ∨ v = 12 ∨ v = 13 ∨ v = 14 ∨ v = 15 ∨ v = 16 ∨ v = 17 ∨ v = 18 ∨ v = 19 ∨ v = 20 ∨ v = 21 ∨ v = 22 ∨ v = 23 by omega) with rfl | rfl | rfl | rfl | rfl | rfl | rfl | rfl | rfl | rfl | rfl | rfl | rfl | rfl | rfl | rfl | rfl | rfl | rfl | rfl | rfl | rfl | rfl | rfl
        · refine v_tsw hX eL_law_40 (tgt := 152) (by decide) (by decide) ?_
          exact lc_pupil hX hSC hL hk g cont l5 l6
        · refine v_tsw hX eL_law_40 (tgt := 177) (by decide) (by decide) ?_
          exact lc_project hX hSC hL hk g cont l5 l6
        · refine v_tsw hX eL_law_40 (tgt := 250) (by decide) (by decide) ?_
          exact lc_wish hX hSC hL hk g cont l5 l6
        · refine v_tsw hX eL_law_40 (tgt := 287) (by decide) (by decide) ?_
          exact lc_wishes hX hSC hL hk g cont l5 l6
        · refine v_tsw hX eL_law_40 (tgt := 360) (by decide) (by decide) ?_
          exact lc_friends hX hSC hL hk g cont l5 l6
        · refine v_tsw hX eL_law_40 (tgt := 425) (by decide) (by decide) ?_
          exact lc_apart hX hSC hL hk g cont l5 l6
        · refine v_tsw hX eL_law_40 (tgt := 490) (by decide) (by decide) ?_
          exact lc_here hX hSC hL hk g cont l5 l6
        · refine v_tsw hX eL_law_40 (tgt := 543) (by decide) (by decide) ?_
          exact lc_offered hX hSC hL hk g cont l5 l6
        · refine v_tsw hX eL_law_40 (tgt := 596) (by decide) (by decide) ?_
          exact lc_lots hX hSC hL hk g cont l5 l6
        · refine v_tsw hX eL_law_40 (tgt := 621) (by decide) (by decide) ?_
          exact lc_count hX hSC hL hk g cont l5 l6
        · refine v_tsw hX eL_law_40 (tgt := 646) (by decide) (by decide) ?_
          exact lc_of hX hSC hl0 hth hL hk g (cont0 hk) l5 l6
        · refine v_tsw hX eL_law_40 (tgt := 714) (by decide) (by decide) ?_
          exact lc_rank hX hSC hL hk g cont l5 l6
        · refine v_tsw hX eL_law_40 (tgt := 751) (by decide) (by decide) ?_
          exact lc_put hX hSC hL hk g cont l5 l6
        · refine v_tsw hX eL_law_40 (tgt := 788) (by decide) (by decide) ?_
          exact lc_wrong hX hSC hL hk g cont l5 l6
        · refine v_tsw hX eL_law_40 (tgt := 801) (by decide) (by decide) ?_
          exact lc_best hX hSC hL hk g cont l5 l6
        · refine v_tsw hX eL_law_40 (tgt := 814) (by decide) (by decide) ?_
          exact lc_plans hX hSC hL hk g cont l5 l6
        · refine v_tsw hX eL_law_40 (tgt := 839) (by decide) (by decide) ?_
          exact lc_worth hX hSC hL hk g cont l5 l6
        · refine v_tsw hX eL_law_40 (tgt := 864) (by decide) (by decide) ?_
          exact lc_swap hX hSC hL hk g cont l5 l6
        · refine v_tsw hX eL_law_40 (tgt := 877) (by decide) (by decide) ?_
          exact lc_change hX hSC hL hk g cont l5 l6
        · refine v_tsw hX eL_law_40 (tgt := 890) (by decide) (by decide) ?_
          exact lc_lie hX hSC hL hk g cont l5 l6
        · refine v_tsw hX eL_law_40 (tgt := 915) (by decide) (by decide) ?_
          exact lc_book hX hSC hL hk g cont l5 l6
        · refine v_tsw hX eL_law_40 (tgt := 928) (by decide) (by decide) ?_
          exact lc_year hX hSC hL hk g cont l5 l6
        · refine v_tsw hX eL_law_40 (tgt := 965) (by decide) (by decide) ?_
          exact lc_undo hX hSC hL hk g cont l5 l6
        · refine v_tsw hX eL_law_40 (tgt := 978) (by decide) (by decide) ?_
          exact lc_row hX hSC hl0 hth hL hk g (cont0 hk) l5 l6
      · exact v_tswD hX eL_law_40 (tgt := 1034) ⟨by omega, by omega, by omega⟩ rfl (cont h g l5 l6)
    show VW (p9, l, e, R, s, m, args, below, meth, c, al, tc, D, A, Z, n + 1, 6 * n + 6) 23 (LSl k l5 l6) [] h
    by_cases hk : 6 * k + 6 ≤ L
    · refine v_iload hX eL_law_23 rfl ?_
      refine v_aload_n hX eL_law_25 rfl ?_
      refine v_slen hX hSC eL_law_26 ?_
      refine v_bipush hX eL_law_27 (by decide) ?_
      refine v_isub hX eL_law_29 ?_
      refine v_icmp_gt hX eL_law_30 (tgt := 1040) rfl ⟨by omega, by omega⟩ ⟨by omega, by omega⟩ (fun c30 => False.elim ((by omega))) (fun c30 => ?_)
      refine v_aload_n hX eL_law_33 rfl ?_
      refine v_iload hX eL_law_34 rfl ?_
      refine v_sld hX hSC hL eL_law_36 ⟨by omega, by omega⟩ ?_
      try simp only [Int.toNat_natCast, Int.toNat_zero, Int.reduceToNat]
      refine v_bipush hX eL_law_37 (by decide) ?_
      refine v_iand hX eL_law_39 ?_
      exact sw hk _ (band31 _)
    · refine v_iload hX eL_law_23 rfl ?_
      refine v_aload_n hX eL_law_25 rfl ?_
      refine v_slen hX hSC eL_law_26 ?_
      refine v_bipush hX eL_law_27 (by decide) ?_
      refine v_isub hX eL_law_29 ?_
      refine v_icmp_gt hX eL_law_30 (tgt := 1040) rfl ⟨by omega, by omega⟩ ⟨by omega, by omega⟩ (fun c30 => ?_) (fun c30 => False.elim ((by omega)))
      refine v_iconst hX eL_law_1040 ?_
      exact hend _ _ _ _
