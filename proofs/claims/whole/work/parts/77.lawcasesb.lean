/-! the cases of the law, two -/
set_option maxHeartbeats 2000000 in
set_option maxRecDepth 20000 in
theorem lc_lots {X : CT} {b L k : Nat} {xs : Nat → Int32} {h : Hp} (hX : Cx 21 ML_law X) (hSC : SCR b L xs X) (hL : L ≤ 3072) (hk : 6 * k + 6 ≤ L) (g : REL h) (cont : ∀ g, REL g → ∀ l5 l6, VW X 1034 (LSl k l5 l6) [] g) (l5 l6 : Option MV) : VW X 596 (LSl k l5 l6) [] h := by
  have g0 := g
  refine v_aload_n hX eL_law_596 rfl ?_
  refine v_aload_n hX eL_law_597 rfl ?_
  refine v_iload hX eL_law_598 rfl ?_
  refine v_iconst hX eL_law_600 ?_
  refine v_iadd hX eL_law_601 ?_
  refine v_sld hX hSC hL eL_law_602 ⟨by omega, by omega⟩ ?_
  try simp only [Int.toNat_natCast, Int.toNat_zero, Int.reduceToNat]
  refine v_frV hX eL_law_603 lV_L_58 ok_MX7_lots ⟨by decide, rfl⟩ rfl ⟨rfl, Nat.le_of_ble_eq_true rfl⟩ (Nat.le_of_ble_eq_true rfl) (ag_lots g 0) rfl ?_
  rintro r g1 ⟨z, rfl, hm⟩
  show VW X 606 _ [mI z] g1
  refine v_aload_n hX eL_law_606 rfl ?_
  refine v_aload_n hX eL_law_607 rfl ?_
  refine v_iload hX eL_law_608 rfl ?_
  refine v_iconst hX eL_law_610 ?_
  refine v_iadd hX eL_law_611 ?_
  refine v_sld hX hSC hL eL_law_612 ⟨by omega, by omega⟩ ?_
  try simp only [Int.toNat_natCast, Int.toNat_zero, Int.reduceToNat]
  refine v_frV hX eL_law_613 lV_L_62 ok_MX8_lots ⟨by decide, rfl⟩ rfl ⟨rfl, Nat.le_of_ble_eq_true rfl⟩ (Nat.le_of_ble_eq_true rfl) (hm) rfl ?_
  rintro r2 g2 ⟨rfl, rel⟩
  exact v_icmp_same hX eL_law_616 (tgt := 1034) rfl (cont _ rel _ _)
set_option maxHeartbeats 2000000 in
set_option maxRecDepth 20000 in
theorem lc_count {X : CT} {b L k : Nat} {xs : Nat → Int32} {h : Hp} (hX : Cx 21 ML_law X) (hSC : SCR b L xs X) (hL : L ≤ 3072) (hk : 6 * k + 6 ≤ L) (g : REL h) (cont : ∀ g, REL g → ∀ l5 l6, VW X 1034 (LSl k l5 l6) [] g) (l5 l6 : Option MV) : VW X 621 (LSl k l5 l6) [] h := by
  have g0 := g
  refine v_aload_n hX eL_law_621 rfl ?_
  refine v_aload_n hX eL_law_622 rfl ?_
  refine v_iload hX eL_law_623 rfl ?_
  refine v_iconst hX eL_law_625 ?_
  refine v_iadd hX eL_law_626 ?_
  refine v_sld hX hSC hL eL_law_627 ⟨by omega, by omega⟩ ?_
  try simp only [Int.toNat_natCast, Int.toNat_zero, Int.reduceToNat]
  refine v_frV hX eL_law_628 lV_L_63 ok_MX7_count ⟨by decide, rfl⟩ rfl ⟨rfl, Nat.le_of_ble_eq_true rfl⟩ (Nat.le_of_ble_eq_true rfl) (ag_count g (sv_rng _ _) 0) rfl ?_
  rintro r g1 ⟨z, rfl, hm⟩
  show VW X 631 _ [mI z] g1
  refine v_aload_n hX eL_law_631 rfl ?_
  refine v_aload_n hX eL_law_632 rfl ?_
  refine v_iload hX eL_law_633 rfl ?_
  refine v_iconst hX eL_law_635 ?_
  refine v_iadd hX eL_law_636 ?_
  refine v_sld hX hSC hL eL_law_637 ⟨by omega, by omega⟩ ?_
  try simp only [Int.toNat_natCast, Int.toNat_zero, Int.reduceToNat]
  refine v_frV hX eL_law_638 lV_L_66 ok_MX8_count ⟨by decide, rfl⟩ rfl ⟨rfl, Nat.le_of_ble_eq_true rfl⟩ (Nat.le_of_ble_eq_true rfl) (hm) rfl ?_
  rintro r2 g2 ⟨rfl, rel⟩
  exact v_icmp_same hX eL_law_641 (tgt := 1034) rfl (cont _ rel _ _)
set_option maxHeartbeats 2000000 in
set_option maxRecDepth 20000 in
theorem lc_rank {X : CT} {b L k : Nat} {xs : Nat → Int32} {h : Hp} (hX : Cx 21 ML_law X) (hSC : SCR b L xs X) (hL : L ≤ 3072) (hk : 6 * k + 6 ≤ L) (g : REL h) (cont : ∀ g, REL g → ∀ l5 l6, VW X 1034 (LSl k l5 l6) [] g) (l5 l6 : Option MV) : VW X 714 (LSl k l5 l6) [] h := by
  have g0 := g
  refine v_aload_n hX eL_law_714 rfl ?_
  refine v_aload_n hX eL_law_715 rfl ?_
  refine v_iload hX eL_law_716 rfl ?_
  refine v_iconst hX eL_law_718 ?_
  refine v_iadd hX eL_law_719 ?_
  refine v_sld hX hSC hL eL_law_720 ⟨by omega, by omega⟩ ?_
  try simp only [Int.toNat_natCast, Int.toNat_zero, Int.reduceToNat]
  refine v_aload_n hX eL_law_721 rfl ?_
  refine v_iload hX eL_law_722 rfl ?_
  refine v_iconst hX eL_law_724 ?_
  refine v_iadd hX eL_law_725 ?_
  refine v_sld hX hSC hL eL_law_726 ⟨by omega, by omega⟩ ?_
  try simp only [Int.toNat_natCast, Int.toNat_zero, Int.reduceToNat]
  refine v_frV hX eL_law_727 lV_L_77 ok_MX7_rank ⟨by decide, rfl⟩ rfl ⟨rfl, Nat.le_of_ble_eq_true rfl⟩ (Nat.le_of_ble_eq_true rfl) (ag_rank g (sv_rng _ _) (sv_rng _ _) 0) rfl ?_
  rintro r g1 ⟨z, rfl, hm⟩
  show VW X 730 _ [mI z] g1
  refine v_aload_n hX eL_law_730 rfl ?_
  refine v_aload_n hX eL_law_731 rfl ?_
  refine v_iload hX eL_law_732 rfl ?_
  refine v_iconst hX eL_law_734 ?_
  refine v_iadd hX eL_law_735 ?_
  refine v_sld hX hSC hL eL_law_736 ⟨by omega, by omega⟩ ?_
  try simp only [Int.toNat_natCast, Int.toNat_zero, Int.reduceToNat]
  refine v_aload_n hX eL_law_737 rfl ?_
  refine v_iload hX eL_law_738 rfl ?_
  refine v_iconst hX eL_law_740 ?_
  refine v_iadd hX eL_law_741 ?_
  refine v_sld hX hSC hL eL_law_742 ⟨by omega, by omega⟩ ?_
  try simp only [Int.toNat_natCast, Int.toNat_zero, Int.reduceToNat]
  refine v_frV hX eL_law_743 lV_L_80 ok_MX8_rank ⟨by decide, rfl⟩ rfl ⟨rfl, Nat.le_of_ble_eq_true rfl⟩ (Nat.le_of_ble_eq_true rfl) (hm) rfl ?_
  rintro r2 g2 ⟨rfl, rel⟩
  exact v_icmp_same hX eL_law_746 (tgt := 1034) rfl (cont _ rel _ _)
set_option maxHeartbeats 2000000 in
set_option maxRecDepth 20000 in
theorem lc_put {X : CT} {b L k : Nat} {xs : Nat → Int32} {h : Hp} (hX : Cx 21 ML_law X) (hSC : SCR b L xs X) (hL : L ≤ 3072) (hk : 6 * k + 6 ≤ L) (g : REL h) (cont : ∀ g, REL g → ∀ l5 l6, VW X 1034 (LSl k l5 l6) [] g) (l5 l6 : Option MV) : VW X 751 (LSl k l5 l6) [] h := by
  have g0 := g
  refine v_aload_n hX eL_law_751 rfl ?_
  refine v_aload_n hX eL_law_752 rfl ?_
  refine v_iload hX eL_law_753 rfl ?_
  refine v_iconst hX eL_law_755 ?_
  refine v_iadd hX eL_law_756 ?_
  refine v_sld hX hSC hL eL_law_757 ⟨by omega, by omega⟩ ?_
  try simp only [Int.toNat_natCast, Int.toNat_zero, Int.reduceToNat]
  refine v_aload_n hX eL_law_758 rfl ?_
  refine v_iload hX eL_law_759 rfl ?_
  refine v_iconst hX eL_law_761 ?_
  refine v_iadd hX eL_law_762 ?_
  refine v_sld hX hSC hL eL_law_763 ⟨by omega, by omega⟩ ?_
  try simp only [Int.toNat_natCast, Int.toNat_zero, Int.reduceToNat]
  refine v_frV hX eL_law_764 lV_L_81 ok_MX7_put ⟨by decide, rfl⟩ rfl ⟨rfl, Nat.le_of_ble_eq_true rfl⟩ (Nat.le_of_ble_eq_true rfl) (ag_put g (sv_rng _ _) (sv_rng _ _) 0) rfl ?_
  rintro r g1 ⟨z, rfl, hm⟩
  show VW X 767 _ [mI z] g1
  refine v_aload_n hX eL_law_767 rfl ?_
  refine v_aload_n hX eL_law_768 rfl ?_
  refine v_iload hX eL_law_769 rfl ?_
  refine v_iconst hX eL_law_771 ?_
  refine v_iadd hX eL_law_772 ?_
  refine v_sld hX hSC hL eL_law_773 ⟨by omega, by omega⟩ ?_
  try simp only [Int.toNat_natCast, Int.toNat_zero, Int.reduceToNat]
  refine v_aload_n hX eL_law_774 rfl ?_
  refine v_iload hX eL_law_775 rfl ?_
  refine v_iconst hX eL_law_777 ?_
  refine v_iadd hX eL_law_778 ?_
  refine v_sld hX hSC hL eL_law_779 ⟨by omega, by omega⟩ ?_
  try simp only [Int.toNat_natCast, Int.toNat_zero, Int.reduceToNat]
  refine v_frV hX eL_law_780 lV_L_85 ok_MX8_put ⟨by decide, rfl⟩ rfl ⟨rfl, Nat.le_of_ble_eq_true rfl⟩ (Nat.le_of_ble_eq_true rfl) (hm) rfl ?_
  rintro r2 g2 ⟨rfl, rel⟩
  exact v_icmp_same hX eL_law_783 (tgt := 1034) rfl (cont _ rel _ _)
set_option maxHeartbeats 2000000 in
set_option maxRecDepth 20000 in
theorem lc_wrong {X : CT} {b L k : Nat} {xs : Nat → Int32} {h : Hp} (hX : Cx 21 ML_law X) (hSC : SCR b L xs X) (hL : L ≤ 3072) (hk : 6 * k + 6 ≤ L) (g : REL h) (cont : ∀ g, REL g → ∀ l5 l6, VW X 1034 (LSl k l5 l6) [] g) (l5 l6 : Option MV) : VW X 788 (LSl k l5 l6) [] h := by
  have g0 := g
  refine v_aload_n hX eL_law_788 rfl ?_
  refine v_frV hX eL_law_789 lV_L_86 ok_MX7_wrong ⟨by decide, rfl⟩ rfl ⟨rfl, Nat.le_of_ble_eq_true rfl⟩ (Nat.le_of_ble_eq_true rfl) (ag_wrong g 0) rfl ?_
  rintro r g1 ⟨z, rfl, hm⟩
  show VW X 792 _ [mI z] g1
  refine v_aload_n hX eL_law_792 rfl ?_
  refine v_frV hX eL_law_793 lV_L_89 ok_MX8_wrong ⟨by decide, rfl⟩ rfl ⟨rfl, Nat.le_of_ble_eq_true rfl⟩ (Nat.le_of_ble_eq_true rfl) (hm) rfl ?_
  rintro r2 g2 ⟨rfl, rel⟩
  exact v_icmp_same hX eL_law_796 (tgt := 1034) rfl (cont _ rel _ _)
set_option maxHeartbeats 2000000 in
set_option maxRecDepth 20000 in
theorem lc_best {X : CT} {b L k : Nat} {xs : Nat → Int32} {h : Hp} (hX : Cx 21 ML_law X) (hSC : SCR b L xs X) (hL : L ≤ 3072) (hk : 6 * k + 6 ≤ L) (g : REL h) (cont : ∀ g, REL g → ∀ l5 l6, VW X 1034 (LSl k l5 l6) [] g) (l5 l6 : Option MV) : VW X 801 (LSl k l5 l6) [] h := by
  have g0 := g
  refine v_aload_n hX eL_law_801 rfl ?_
  refine v_frV hX eL_law_802 lV_L_90 ok_MX7_best ⟨by decide, rfl⟩ rfl ⟨rfl, Nat.le_of_ble_eq_true rfl⟩ (Nat.le_of_ble_eq_true rfl) (ag_best g 0) rfl ?_
  rintro r g1 ⟨z, rfl, hm⟩
  show VW X 805 _ [mI z] g1
  refine v_aload_n hX eL_law_805 rfl ?_
  refine v_frV hX eL_law_806 lV_L_93 ok_MX8_best ⟨by decide, rfl⟩ rfl ⟨rfl, Nat.le_of_ble_eq_true rfl⟩ (Nat.le_of_ble_eq_true rfl) (hm) rfl ?_
  rintro r2 g2 ⟨rfl, rel⟩
  exact v_icmp_same hX eL_law_809 (tgt := 1034) rfl (cont _ rel _ _)
set_option maxHeartbeats 2000000 in
set_option maxRecDepth 20000 in
theorem lc_plans {X : CT} {b L k : Nat} {xs : Nat → Int32} {h : Hp} (hX : Cx 21 ML_law X) (hSC : SCR b L xs X) (hL : L ≤ 3072) (hk : 6 * k + 6 ≤ L) (g : REL h) (cont : ∀ g, REL g → ∀ l5 l6, VW X 1034 (LSl k l5 l6) [] g) (l5 l6 : Option MV) : VW X 814 (LSl k l5 l6) [] h := by
  have g0 := g
  refine v_aload_n hX eL_law_814 rfl ?_
  refine v_aload_n hX eL_law_815 rfl ?_
  refine v_iload hX eL_law_816 rfl ?_
  refine v_iconst hX eL_law_818 ?_
  refine v_iadd hX eL_law_819 ?_
  refine v_sld hX hSC hL eL_law_820 ⟨by omega, by omega⟩ ?_
  try simp only [Int.toNat_natCast, Int.toNat_zero, Int.reduceToNat]
  refine v_frV hX eL_law_821 lV_L_94 ok_MX7_plans ⟨by decide, rfl⟩ rfl ⟨rfl, Nat.le_of_ble_eq_true rfl⟩ (Nat.le_of_ble_eq_true rfl) (ag_plans g (sv_rng _ _) 0) rfl ?_
  rintro r g1 ⟨z, rfl, hm⟩
  show VW X 824 _ [mI z] g1
  refine v_aload_n hX eL_law_824 rfl ?_
  refine v_aload_n hX eL_law_825 rfl ?_
  refine v_iload hX eL_law_826 rfl ?_
  refine v_iconst hX eL_law_828 ?_
  refine v_iadd hX eL_law_829 ?_
  refine v_sld hX hSC hL eL_law_830 ⟨by omega, by omega⟩ ?_
  try simp only [Int.toNat_natCast, Int.toNat_zero, Int.reduceToNat]
  refine v_frV hX eL_law_831 lV_L_97 ok_MX8_plans ⟨by decide, rfl⟩ rfl ⟨rfl, Nat.le_of_ble_eq_true rfl⟩ (Nat.le_of_ble_eq_true rfl) (hm) rfl ?_
  rintro r2 g2 ⟨rfl, rel⟩
  exact v_icmp_same hX eL_law_834 (tgt := 1034) rfl (cont _ rel _ _)
set_option maxHeartbeats 2000000 in
set_option maxRecDepth 20000 in
theorem lc_worth {X : CT} {b L k : Nat} {xs : Nat → Int32} {h : Hp} (hX : Cx 21 ML_law X) (hSC : SCR b L xs X) (hL : L ≤ 3072) (hk : 6 * k + 6 ≤ L) (g : REL h) (cont : ∀ g, REL g → ∀ l5 l6, VW X 1034 (LSl k l5 l6) [] g) (l5 l6 : Option MV) : VW X 839 (LSl k l5 l6) [] h := by
  have g0 := g
  refine v_aload_n hX eL_law_839 rfl ?_
  refine v_aload_n hX eL_law_840 rfl ?_
  refine v_iload hX eL_law_841 rfl ?_
  refine v_iconst hX eL_law_843 ?_
  refine v_iadd hX eL_law_844 ?_
  refine v_sld hX hSC hL eL_law_845 ⟨by omega, by omega⟩ ?_
  try simp only [Int.toNat_natCast, Int.toNat_zero, Int.reduceToNat]
  refine v_frV hX eL_law_846 lV_L_98 ok_MX7_worth ⟨by decide, rfl⟩ rfl ⟨rfl, Nat.le_of_ble_eq_true rfl⟩ (Nat.le_of_ble_eq_true rfl) (ag_worth g (sv_rng _ _) 0) rfl ?_
  rintro r g1 ⟨z, rfl, hm⟩
  show VW X 849 _ [mI z] g1
  refine v_aload_n hX eL_law_849 rfl ?_
  refine v_aload_n hX eL_law_850 rfl ?_
  refine v_iload hX eL_law_851 rfl ?_
  refine v_iconst hX eL_law_853 ?_
  refine v_iadd hX eL_law_854 ?_
  refine v_sld hX hSC hL eL_law_855 ⟨by omega, by omega⟩ ?_
  try simp only [Int.toNat_natCast, Int.toNat_zero, Int.reduceToNat]
  refine v_frV hX eL_law_856 lV_L_101 ok_MX8_worth ⟨by decide, rfl⟩ rfl ⟨rfl, Nat.le_of_ble_eq_true rfl⟩ (Nat.le_of_ble_eq_true rfl) (hm) rfl ?_
  rintro r2 g2 ⟨rfl, rel⟩
  exact v_icmp_same hX eL_law_859 (tgt := 1034) rfl (cont _ rel _ _)
set_option maxHeartbeats 2000000 in
set_option maxRecDepth 20000 in
theorem lc_swap {X : CT} {b L k : Nat} {xs : Nat → Int32} {h : Hp} (hX : Cx 21 ML_law X) (hSC : SCR b L xs X) (hL : L ≤ 3072) (hk : 6 * k + 6 ≤ L) (g : REL h) (cont : ∀ g, REL g → ∀ l5 l6, VW X 1034 (LSl k l5 l6) [] g) (l5 l6 : Option MV) : VW X 864 (LSl k l5 l6) [] h := by
  have g0 := g
  refine v_aload_n hX eL_law_864 rfl ?_
  refine v_frV hX eL_law_865 lV_L_102 ok_MX7_swap ⟨by decide, rfl⟩ rfl ⟨rfl, Nat.le_of_ble_eq_true rfl⟩ (Nat.le_of_ble_eq_true rfl) (ag_swap g 0) rfl ?_
  rintro r g1 ⟨z, rfl, hm⟩
  show VW X 868 _ [mI z] g1
  refine v_aload_n hX eL_law_868 rfl ?_
  refine v_frV hX eL_law_869 lV_L_105 ok_MX8_swap ⟨by decide, rfl⟩ rfl ⟨rfl, Nat.le_of_ble_eq_true rfl⟩ (Nat.le_of_ble_eq_true rfl) (hm) rfl ?_
  rintro r2 g2 ⟨rfl, rel⟩
  exact v_icmp_same hX eL_law_872 (tgt := 1034) rfl (cont _ rel _ _)
set_option maxHeartbeats 2000000 in
set_option maxRecDepth 20000 in
theorem lc_change {X : CT} {b L k : Nat} {xs : Nat → Int32} {h : Hp} (hX : Cx 21 ML_law X) (hSC : SCR b L xs X) (hL : L ≤ 3072) (hk : 6 * k + 6 ≤ L) (g : REL h) (cont : ∀ g, REL g → ∀ l5 l6, VW X 1034 (LSl k l5 l6) [] g) (l5 l6 : Option MV) : VW X 877 (LSl k l5 l6) [] h := by
  have g0 := g
  refine v_aload_n hX eL_law_877 rfl ?_
  refine v_frV hX eL_law_878 lV_L_106 ok_MX7_change ⟨by decide, rfl⟩ rfl ⟨rfl, Nat.le_of_ble_eq_true rfl⟩ (Nat.le_of_ble_eq_true rfl) (ag_change g 0) rfl ?_
  rintro r g1 ⟨z, rfl, hm⟩
  show VW X 881 _ [mI z] g1
  refine v_aload_n hX eL_law_881 rfl ?_
  refine v_frV hX eL_law_882 lV_L_109 ok_MX8_change ⟨by decide, rfl⟩ rfl ⟨rfl, Nat.le_of_ble_eq_true rfl⟩ (Nat.le_of_ble_eq_true rfl) (hm) rfl ?_
  rintro r2 g2 ⟨rfl, rel⟩
  exact v_icmp_same hX eL_law_885 (tgt := 1034) rfl (cont _ rel _ _)
set_option maxHeartbeats 2000000 in
set_option maxRecDepth 20000 in
theorem lc_lie {X : CT} {b L k : Nat} {xs : Nat → Int32} {h : Hp} (hX : Cx 21 ML_law X) (hSC : SCR b L xs X) (hL : L ≤ 3072) (hk : 6 * k + 6 ≤ L) (g : REL h) (cont : ∀ g, REL g → ∀ l5 l6, VW X 1034 (LSl k l5 l6) [] g) (l5 l6 : Option MV) : VW X 890 (LSl k l5 l6) [] h := by
  have g0 := g
  refine v_aload_n hX eL_law_890 rfl ?_
  refine v_aload_n hX eL_law_891 rfl ?_
  refine v_iload hX eL_law_892 rfl ?_
  refine v_iconst hX eL_law_894 ?_
  refine v_iadd hX eL_law_895 ?_
  refine v_sld hX hSC hL eL_law_896 ⟨by omega, by omega⟩ ?_
  try simp only [Int.toNat_natCast, Int.toNat_zero, Int.reduceToNat]
  refine v_frV hX eL_law_897 lV_L_110 ok_MX7_lie ⟨by decide, rfl⟩ rfl ⟨rfl, Nat.le_of_ble_eq_true rfl⟩ (Nat.le_of_ble_eq_true rfl) (ag_lie g (sv_rng _ _) 0) rfl ?_
  rintro r g1 ⟨z, rfl, hm⟩
  show VW X 900 _ [mI z] g1
  refine v_aload_n hX eL_law_900 rfl ?_
  refine v_aload_n hX eL_law_901 rfl ?_
  refine v_iload hX eL_law_902 rfl ?_
  refine v_iconst hX eL_law_904 ?_
  refine v_iadd hX eL_law_905 ?_
  refine v_sld hX hSC hL eL_law_906 ⟨by omega, by omega⟩ ?_
  try simp only [Int.toNat_natCast, Int.toNat_zero, Int.reduceToNat]
  refine v_frV hX eL_law_907 lV_L_113 ok_MX8_lie ⟨by decide, rfl⟩ rfl ⟨rfl, Nat.le_of_ble_eq_true rfl⟩ (Nat.le_of_ble_eq_true rfl) (hm) rfl ?_
  rintro r2 g2 ⟨rfl, rel⟩
  exact v_icmp_same hX eL_law_910 (tgt := 1034) rfl (cont _ rel _ _)
set_option maxHeartbeats 2000000 in
set_option maxRecDepth 20000 in
theorem lc_book {X : CT} {b L k : Nat} {xs : Nat → Int32} {h : Hp} (hX : Cx 21 ML_law X) (hSC : SCR b L xs X) (hL : L ≤ 3072) (hk : 6 * k + 6 ≤ L) (g : REL h) (cont : ∀ g, REL g → ∀ l5 l6, VW X 1034 (LSl k l5 l6) [] g) (l5 l6 : Option MV) : VW X 915 (LSl k l5 l6) [] h := by
  have g0 := g
  refine v_aload_n hX eL_law_915 rfl ?_
  refine v_frV hX eL_law_916 lV_L_114 ok_MX7_book ⟨by decide, rfl⟩ rfl ⟨rfl, Nat.le_of_ble_eq_true rfl⟩ (Nat.le_of_ble_eq_true rfl) (ag_book g 0) rfl ?_
  rintro r g1 ⟨z, rfl, hm⟩
  show VW X 919 _ [mI z] g1
  refine v_aload_n hX eL_law_919 rfl ?_
  refine v_frV hX eL_law_920 lV_L_117 ok_MX8_book ⟨by decide, rfl⟩ rfl ⟨rfl, Nat.le_of_ble_eq_true rfl⟩ (Nat.le_of_ble_eq_true rfl) (hm) rfl ?_
  rintro r2 g2 ⟨rfl, rel⟩
  exact v_icmp_same hX eL_law_923 (tgt := 1034) rfl (cont _ rel _ _)
set_option maxHeartbeats 2000000 in
set_option maxRecDepth 20000 in
theorem lc_year {X : CT} {b L k : Nat} {xs : Nat → Int32} {h : Hp} (hX : Cx 21 ML_law X) (hSC : SCR b L xs X) (hL : L ≤ 3072) (hk : 6 * k + 6 ≤ L) (g : REL h) (cont : ∀ g, REL g → ∀ l5 l6, VW X 1034 (LSl k l5 l6) [] g) (l5 l6 : Option MV) : VW X 928 (LSl k l5 l6) [] h := by
  have g0 := g
  refine v_aload_n hX eL_law_928 rfl ?_
  refine v_aload_n hX eL_law_929 rfl ?_
  refine v_iload hX eL_law_930 rfl ?_
  refine v_iconst hX eL_law_932 ?_
  refine v_iadd hX eL_law_933 ?_
  refine v_sld hX hSC hL eL_law_934 ⟨by omega, by omega⟩ ?_
  try simp only [Int.toNat_natCast, Int.toNat_zero, Int.reduceToNat]
  refine v_aload_n hX eL_law_935 rfl ?_
  refine v_iload hX eL_law_936 rfl ?_
  refine v_iconst hX eL_law_938 ?_
  refine v_iadd hX eL_law_939 ?_
  refine v_sld hX hSC hL eL_law_940 ⟨by omega, by omega⟩ ?_
  try simp only [Int.toNat_natCast, Int.toNat_zero, Int.reduceToNat]
  refine v_frV hX eL_law_941 lV_L_118 ok_MX7_year ⟨by decide, rfl⟩ rfl ⟨rfl, Nat.le_of_ble_eq_true rfl⟩ (Nat.le_of_ble_eq_true rfl) (ag_year g (sv_rng _ _) (sv_rng _ _) 0) rfl ?_
  rintro r g1 ⟨z, rfl, hm⟩
  show VW X 944 _ [mI z] g1
  refine v_aload_n hX eL_law_944 rfl ?_
  refine v_aload_n hX eL_law_945 rfl ?_
  refine v_iload hX eL_law_946 rfl ?_
  refine v_iconst hX eL_law_948 ?_
  refine v_iadd hX eL_law_949 ?_
  refine v_sld hX hSC hL eL_law_950 ⟨by omega, by omega⟩ ?_
  try simp only [Int.toNat_natCast, Int.toNat_zero, Int.reduceToNat]
  refine v_aload_n hX eL_law_951 rfl ?_
  refine v_iload hX eL_law_952 rfl ?_
  refine v_iconst hX eL_law_954 ?_
  refine v_iadd hX eL_law_955 ?_
  refine v_sld hX hSC hL eL_law_956 ⟨by omega, by omega⟩ ?_
  try simp only [Int.toNat_natCast, Int.toNat_zero, Int.reduceToNat]
  refine v_frV hX eL_law_957 lV_L_121 ok_MX8_year ⟨by decide, rfl⟩ rfl ⟨rfl, Nat.le_of_ble_eq_true rfl⟩ (Nat.le_of_ble_eq_true rfl) (hm) rfl ?_
  rintro r2 g2 ⟨rfl, rel⟩
  exact v_icmp_same hX eL_law_960 (tgt := 1034) rfl (cont _ rel _ _)
set_option maxHeartbeats 2000000 in
set_option maxRecDepth 20000 in
theorem lc_undo {X : CT} {b L k : Nat} {xs : Nat → Int32} {h : Hp} (hX : Cx 21 ML_law X) (hSC : SCR b L xs X) (hL : L ≤ 3072) (hk : 6 * k + 6 ≤ L) (g : REL h) (cont : ∀ g, REL g → ∀ l5 l6, VW X 1034 (LSl k l5 l6) [] g) (l5 l6 : Option MV) : VW X 965 (LSl k l5 l6) [] h := by
  have g0 := g
  refine v_aload_n hX eL_law_965 rfl ?_
  refine v_frV hX eL_law_966 lV_L_122 ok_MX7_undo ⟨by decide, rfl⟩ rfl ⟨rfl, Nat.le_of_ble_eq_true rfl⟩ (Nat.le_of_ble_eq_true rfl) (ag_undo g 0) rfl ?_
  rintro r g1 ⟨z, rfl, hm⟩
  show VW X 969 _ [mI z] g1
  refine v_aload_n hX eL_law_969 rfl ?_
  refine v_frV hX eL_law_970 lV_L_125 ok_MX8_undo ⟨by decide, rfl⟩ rfl ⟨rfl, Nat.le_of_ble_eq_true rfl⟩ (Nat.le_of_ble_eq_true rfl) (hm) rfl ?_
  rintro r2 g2 ⟨rfl, rel⟩
  exact v_icmp_same hX eL_law_973 (tgt := 1034) rfl (cont _ rel _ _)
