/-! years in the model -/
noncomputable def rM (g : Hp) (rf : Nat → Int → Int) (p : Nat) : Int := if g 46 p = 1 then rf p (g 50 p) else 0
def BKx (g : Hp) (rm : Nat → Int) (Y n : Nat) (x : Hp) : Prop := (∀ k b, ¬ (k = 64 ∧ 8 * Y ≤ b ∧ b < 8 * Y + n) → ¬ (k = 65 ∧ 8 * Y ≤ b ∧ b < 8 * Y + n) → ¬ (k = 49 ∧ b < n) → ¬ (k = 50 ∧ b < n) → x k b = g k b) ∧
  ∀ p, p < n → x 64 (8 * Y + p) = g 50 p ∧ x 65 (8 * Y + p) = rm p ∧ x 49 p = g 49 p + pos1 (rm p) ∧ x 50 p = -1
theorem BKx_s {g x : Hp} {rm : Nat → Int} {Y n : Nat} (b : BKx g rm Y n x) {v1 v2 v3 : Int} (h1 : v1 = g 50 n) (h2 : v2 = rm n) (h3 : v3 = g 49 n + pos1 (rm n)) : BKx g rm Y (n + 1) (up (up (up (up x 64 (8 * Y + n) v1) 65 (8 * Y + n) v2) 49 n v3) 50 n (-1)) := by
  obtain ⟨b1, b2⟩ := b
  constructor
  · intro k j a1 a2 a3 a4
    rw [up_ne (by omega), up_ne (by omega), up_ne (by omega), up_ne (by omega)]
    exact b1 k j (by omega) (by omega) (by omega) (by omega)
  · intro p hp
    by_cases e : p = n
    · subst e
      refine ⟨?_, ?_, ?_, up_same⟩
      · rw [up_ob (by decide), up_ob (by decide), up_ob (by decide), up_same, h1]
      · rw [up_ob (by decide), up_ob (by decide), up_same, h2]
      · rw [up_ob (by decide), up_same, h3]
    · obtain ⟨c1, c2, c3, c4⟩ := b2 p (by omega)
      refine ⟨?_, ?_, ?_, ?_⟩
      · rw [up_ob (by decide), up_ob (by decide), up_ob (by decide), up_ne (by omega)]; exact c1
      · rw [up_ob (by decide), up_ob (by decide), up_ne (by omega)]; exact c2
      · rw [up_ob (by decide), up_ne (by omega)]; exact c3
      · rw [up_ne (by omega)]; exact c4
theorem max_pos {r : Int} (hr : 0 ≤ r) : (if (0 : Int) < r - 1 then r - 1 else 0) = pos1 r := by
  unfold pos1
  split <;> split <;> omega
set_option maxHeartbeats 2000000 in
set_option maxRecDepth 20000 in
theorem c_X8_book {d : Nat} {h g c : Hp} {rf : Nat → Int → Int} (hg : up h 44 0 0 = g) (hI : RI g) (r : RLr g) (hl : LDI g) (hcp : CP g c) (hApS : ∀ a, a < (g 1 3).toNat → apB g a a = false) (ht : ∀ p, p < (g 1 3).toNat → g 50 p = c 4 p ∧ -1 ≤ c 4 p ∧ c 4 p < g 1 4) (w : ∀ p, p < (g 1 3).toNat → RK g p (rf p)) (hrf : ∀ p j, 0 ≤ rf p j ∧ rf p j ≤ 6) (hY : 0 ≤ g 44 31 ∧ g 44 31 < 60) (hf : flt c = 0) : Fr (d + 3) MX8_book [mA 44] h (fun r x => r = some (mI 1) ∧ ∃ y, BKx (up g 66 (g 44 31).toNat (g 1 3)) (rM g rf) (g 44 31).toNat (g 1 3).toNat y ∧ x = up y 44 31 (g 44 31 + 1)) := by
  intro Q hq X hX hR
  have hn := hI.n
  have hm := hI.q
  have en := r.n
  obtain ⟨Y, hYe⟩ : ∃ Y : Nat, g 44 31 = Y := ⟨(g 44 31).toNat, by omega⟩
  rw [hYe, Int.toNat_natCast] at hq
  have loop : ∀ i : Nat, i ≤ (g 1 3).toNat → ∀ x l2, BKx (up g 66 Y (g 1 3)) (rM g rf) Y i x → VW X 44 [some (mA 44), some (mI i), l2] [] x := by
    refine loop_up _ ?_ ?_
    · intro x l2 bx
      have x1 : x 44 1 = g 44 1 := by rw [bx.1 44 1 (by omega) (by omega) (by omega) (by omega), up_ob (by decide)]
      have x31 : x 44 31 = Y := by rw [bx.1 44 31 (by omega) (by omega) (by omega) (by omega), up_ob (by decide), hYe]
      refine v_iload_n hX eX8_book_44 rfl ?_
      refine v_aload_n hX eX8_book_45 rfl ?_
      refine v_getI hX eX8_book_46 fi_X8_84 ⟨by decide, rfl⟩ ?_
      rw [x1]
      refine v_icmp_ge hX eX8_book_49 (tgt := 141) rfl ⟨by omega, by omega⟩ ⟨by omega, by omega⟩ (fun c49 => ?_) (fun c49 => False.elim ((by omega)))
      refine v_aload_n hX eX8_book_141 rfl ?_
      refine v_dup hX eX8_book_142 rfl ?_
      refine v_getI hX eX8_book_143 fi_X8_125 ⟨by decide, rfl⟩ ?_
      rw [x31]
      refine v_iconst hX eX8_book_146 ?_
      refine v_iadd hX eX8_book_147 ?_
      refine v_putI hX eX8_book_148 fi_X8_125 ⟨by decide, rfl⟩ ?_
      refine v_iconst hX eX8_book_151 ?_
      exact v_ireturn hX hR eX8_book_152 rfl (hq _ _ ⟨rfl, x, bx, rfl⟩)
    · intro i hi ih x l2 bx
      have x1 : x 44 1 = g 44 1 := by rw [bx.1 44 1 (by omega) (by omega) (by omega) (by omega), up_ob (by decide)]
      have x31 : x 44 31 = Y := by rw [bx.1 44 31 (by omega) (by omega) (by omega) (by omega), up_ob (by decide), hYe]
      have x46 : x 46 i = g 46 i := by rw [bx.1 46 i (by omega) (by omega) (by omega) (by omega), up_ob (by decide)]
      have x50 : x 50 i = g 50 i := by rw [bx.1 50 i (by omega) (by omega) (by omega) (by omega), up_ob (by decide)]
      have x49 : x 49 i = g 49 i := by rw [bx.1 49 i (by omega) (by omega) (by omega) (by omega), up_ob (by decide)]
      have xw : RK x i (rf i) := by
        have w47 : x 47 i = g 47 i := by rw [bx.1 47 i (by omega) (by omega) (by omega) (by omega), up_ob (by decide)]
        have w48 : ∀ b, x 48 b = g 48 b := fun b => by rw [bx.1 48 b (by omega) (by omega) (by omega) (by omega), up_ob (by decide)]
        have := w i hi
        unfold RK at this ⊢
        simp only [w47, w48]
        exact this
      obtain ⟨ti, ti1, ti2⟩ := ht i hi
      have r6 := hrf i (g 50 i)
      have e46 := (r.pu hi).2
      have z46 := (hI.pu (p := i) (by omega)).2.2.2.2.2.1
      have rm := BKx_s bx (v1 := g 50 i) (v2 := rM g rf i) (v3 := g 49 i + pos1 (rM g rf i)) (by rw [up_ob (by decide)]) rfl (by rw [up_ob (by decide)])
      have nx := fun l2 => ih _ l2 rm
      have rr : 0 ≤ rM g rf i ∧ rM g rf i ≤ 6 := by unfold rM; split; exact r6; decide
      have ei : ((8 : Int) * Y + i).toNat = 8 * Y + i := by omega
      have mid : ∀ v, v = rM g rf i → VW X 76 [some (mA 44), some (mI i), l2] [mI v] x := by
        intro v hv
        subst hv
        refine v_istore_n hX eX8_book_76 rfl rfl ?_
        refine v_aload_n hX eX8_book_77 rfl ?_
        refine v_getA hX eX8_book_78 fi_X8_68 ⟨by decide, rfl⟩ rfl ?_
        refine v_bipush hX eX8_book_81 (by decide) ?_
        refine v_aload_n hX eX8_book_83 rfl ?_
        refine v_getI hX eX8_book_84 fi_X8_125 ⟨by decide, rfl⟩ ?_
        rw [x31]
        refine v_imul hX eX8_book_87 ?_
        refine v_iload_n hX eX8_book_88 rfl ?_
        refine v_iadd hX eX8_book_89 ?_
        refine v_aload_n hX eX8_book_90 rfl ?_
        refine v_getA hX eX8_book_91 fi_X8_26 ⟨by decide, rfl⟩ rfl ?_
        refine v_iload_n hX eX8_book_94 rfl ?_
        refine v_iald hX eX8_book_95 (by first | exact ⟨by decide, rfl⟩ | exact AR_rk (by omega)) ⟨by omega, by omega⟩ ?_
        try simp only [Int.toNat_natCast, Int.toNat_zero, Int.reduceToNat]
        rw [x50]
        refine v_iast hX eX8_book_96 (by first | exact ⟨by decide, rfl⟩ | exact AR_rk (by omega)) ⟨by omega, by omega⟩ ?_
        try simp only [Int.toNat_natCast, Int.toNat_zero, Int.reduceToNat]
        rw [ei]
        refine v_aload_n hX eX8_book_97 rfl ?_
        refine v_getA hX eX8_book_98 fi_X8_71 ⟨by decide, rfl⟩ rfl ?_
        refine v_bipush hX eX8_book_101 (by decide) ?_
        refine v_aload_n hX eX8_book_103 rfl ?_
        refine v_getI hX eX8_book_104 fi_X8_125 ⟨by decide, rfl⟩ ?_
        rw [up_ob (by decide), x31]
        refine v_imul hX eX8_book_107 ?_
        refine v_iload_n hX eX8_book_108 rfl ?_
        refine v_iadd hX eX8_book_109 ?_
        refine v_iload_n hX eX8_book_110 rfl ?_
        refine v_iast hX eX8_book_111 (by first | exact ⟨by decide, rfl⟩ | exact AR_rk (by omega)) ⟨by omega, by omega⟩ ?_
        try simp only [Int.toNat_natCast, Int.toNat_zero, Int.reduceToNat]
        rw [ei]
        refine v_aload_n hX eX8_book_112 rfl ?_
        refine v_getA hX eX8_book_113 fi_X8_23 ⟨by decide, rfl⟩ rfl ?_
        refine v_iload_n hX eX8_book_116 rfl ?_
        refine v_dup2 hX eX8_book_117 rfl rfl ?_
        refine v_iald hX eX8_book_118 (by first | exact ⟨by decide, rfl⟩ | exact AR_rk (by omega)) ⟨by omega, by omega⟩ ?_
        try simp only [Int.toNat_natCast, Int.toNat_zero, Int.reduceToNat]
        rw [up_ob (by decide), up_ob (by decide), x49]
        refine v_iconst hX eX8_book_119 ?_
        refine v_iload_n hX eX8_book_120 rfl ?_
        refine v_iconst hX eX8_book_121 ?_
        refine v_isub hX eX8_book_122 ?_
        refine v_max hX eX8_book_123 lX_X8_247 ⟨by decide, by decide⟩ ⟨by omega, by omega⟩ (Nat.le_of_ble_eq_true rfl) ?_
        rw [max_pos rr.1]
        try simp only [Int.toNat_natCast, Int.toNat_zero, Int.reduceToNat]
        refine v_iadd hX eX8_book_126 ?_
        refine v_iast hX eX8_book_127 (by first | exact ⟨by decide, rfl⟩ | exact AR_rk (by omega)) ⟨by omega, by omega⟩ ?_
        try simp only [Int.toNat_natCast, Int.toNat_zero, Int.reduceToNat]
        refine v_aload_n hX eX8_book_128 rfl ?_
        refine v_getA hX eX8_book_129 fi_X8_26 ⟨by decide, rfl⟩ rfl ?_
        refine v_iload_n hX eX8_book_132 rfl ?_
        refine v_iconst hX eX8_book_133 ?_
        refine v_iast hX eX8_book_134 (by first | exact ⟨by decide, rfl⟩ | exact AR_rk (by omega)) ⟨by omega, by omega⟩ ?_
        try simp only [Int.toNat_natCast, Int.toNat_zero, Int.reduceToNat]
        refine v_iinc hX eX8_book_135 rfl rfl rfl ?_
        refine v_goto hX eX8_book_138 (tgt := 44) rfl ?_
        exact nx _
      refine v_iload_n hX eX8_book_44 rfl ?_
      refine v_aload_n hX eX8_book_45 rfl ?_
      refine v_getI hX eX8_book_46 fi_X8_84 ⟨by decide, rfl⟩ ?_
      rw [x1]
      refine v_icmp_ge hX eX8_book_49 (tgt := 141) rfl ⟨by omega, by omega⟩ ⟨by omega, by omega⟩ (fun c49 => False.elim ((by omega))) (fun c49 => ?_)
      refine v_aload_n hX eX8_book_52 rfl ?_
      refine v_getA hX eX8_book_53 fi_X8_13 ⟨by decide, rfl⟩ rfl ?_
      refine v_iload_n hX eX8_book_56 rfl ?_
      refine v_zald hX eX8_book_57 (by first | exact ⟨by decide, rfl⟩ | exact AR_rk (by omega)) ⟨by omega, by omega⟩ ?_
      try simp only [Int.toNat_natCast, Int.toNat_zero, Int.reduceToNat]
      rw [x46]
      refine v_if_eq hX eX8_book_58 (tgt := 75) rfl ⟨by omega, by omega⟩ (fun c58 => ?_) (fun c58 => ?_)
      · refine v_iconst hX eX8_book_75 ?_
        exact mid 0 (by unfold rM; rw [if_neg (by omega)])
      · refine v_aload_n hX eX8_book_61 rfl ?_
        refine v_iload_n hX eX8_book_62 rfl ?_
        refine v_aload_n hX eX8_book_63 rfl ?_
        refine v_getA hX eX8_book_64 fi_X8_26 ⟨by decide, rfl⟩ rfl ?_
        refine v_iload_n hX eX8_book_67 rfl ?_
        refine v_iald hX eX8_book_68 (by first | exact ⟨by decide, rfl⟩ | exact AR_rk (by omega)) ⟨by omega, by omega⟩ ?_
        try simp only [Int.toNat_natCast, Int.toNat_zero, Int.reduceToNat]
        rw [x50]
        refine v_fnV hX eX8_book_69 lV_X8_136 ok_MX8_rankOf ⟨by decide, rfl⟩ rfl ⟨rfl, Nat.le_of_ble_eq_true rfl⟩ (Nat.le_of_ble_eq_true rfl) (c_X8_rankOf (by omega) xw ⟨by omega, by omega⟩) rfl ?_
        try simp only [Int.toNat_natCast, Int.toNat_zero, Int.reduceToNat]
        refine v_goto hX eX8_book_72 (tgt := 76) rfl ?_
        exact mid _ (by unfold rM; rw [if_pos (by omega)])
  show VW X 0 [some (mA 44), none, none] [] h
  refine v_aload_n hX eX8_book_0 rfl ?_
  refine v_iconst hX eX8_book_1 ?_
  refine v_putI hX eX8_book_2 fi_X8_80 ⟨by decide, rfl⟩ ?_
  rw [hg]
  refine v_aload_n hX eX8_book_5 rfl ?_
  refine v_getI hX eX8_book_6 fi_X8_125 ⟨by decide, rfl⟩ ?_
  refine v_bipush hX eX8_book_9 (by decide) ?_
  refine v_icmp_ne hX eX8_book_11 (tgt := 16) rfl ⟨by omega, by omega⟩ ⟨by omega, by omega⟩ (fun c11 => ?_) (fun c11 => False.elim ((by omega)))
  refine v_aload_n hX eX8_book_16 rfl ?_
  refine v_aload_n hX eX8_book_17 rfl ?_
  refine v_getA hX eX8_book_18 fi_X8_26 ⟨by decide, rfl⟩ rfl ?_
  refine v_fnV hX eX8_book_21 lV_X8_157 ok_MX8_wrongOf ⟨by decide, rfl⟩ rfl ⟨rfl, Nat.le_of_ble_eq_true rfl⟩ (Nat.le_of_ble_eq_true rfl) (c_X8_wrongOf hI r hl ⟨by decide, rfl⟩ hcp hApS ht) rfl ?_
  try simp only [Int.toNat_natCast, Int.toNat_zero, Int.reduceToNat]
  rw [hf]
  refine v_if_eq hX eX8_book_24 (tgt := 29) rfl ⟨by omega, by omega⟩ (fun c24 => ?_) (fun c24 => False.elim ((c24 rfl)))
  refine v_aload_n hX eX8_book_29 rfl ?_
  refine v_getA hX eX8_book_30 fi_X8_74 ⟨by decide, rfl⟩ rfl ?_
  refine v_aload_n hX eX8_book_33 rfl ?_
  refine v_getI hX eX8_book_34 fi_X8_125 ⟨by decide, rfl⟩ ?_
  rw [hYe]
  refine v_aload_n hX eX8_book_37 rfl ?_
  refine v_getI hX eX8_book_38 fi_X8_84 ⟨by decide, rfl⟩ ?_
  refine v_iast hX eX8_book_41 (by first | exact ⟨by decide, rfl⟩ | exact AR_rk (by omega)) ⟨by omega, by omega⟩ ?_
  try simp only [Int.toNat_natCast, Int.toNat_zero, Int.reduceToNat]
  rw [en]
  refine v_iconst hX eX8_book_42 ?_
  refine v_istore_n hX eX8_book_43 rfl rfl ?_
  exact loop 0 (by omega) _ _ ⟨fun _ _ _ _ _ _ => rfl, fun p hp => absurd hp (Nat.not_lt_zero _)⟩
set_option maxHeartbeats 2000000 in
set_option maxRecDepth 20000 in
theorem c_X8_book_N {d : Nat} {h g c : Hp} (hg : up h 44 0 0 = g) (hI : RI g) (r : RLr g) (hl : LDI g) (hcp : CP g c) (hApS : ∀ a, a < (g 1 3).toNat → apB g a a = false) (ht : ∀ p, p < (g 1 3).toNat → g 50 p = c 4 p ∧ -1 ≤ c 4 p ∧ c 4 p < g 1 4) (hfr : rng (flt c)) (hY : 0 ≤ g 44 31 ∧ g 44 31 ≤ 60) (hf : flt c ≠ 0 ∨ g 44 31 = 60) : Fn (d + 3) MX8_book [mA 44] h (some (mI (if g 44 31 = 60 then -1 else 0))) g := by
  intro Q hq X hX hR
  show VW X 0 [some (mA 44), none, none] [] h
  by_cases h60 : g 44 31 = 60
  · rw [if_pos h60] at hq
    refine v_aload_n hX eX8_book_0 rfl ?_
    refine v_iconst hX eX8_book_1 ?_
    refine v_putI hX eX8_book_2 fi_X8_80 ⟨by decide, rfl⟩ ?_
    rw [hg]
    refine v_aload_n hX eX8_book_5 rfl ?_
    refine v_getI hX eX8_book_6 fi_X8_125 ⟨by decide, rfl⟩ ?_
    refine v_bipush hX eX8_book_9 (by decide) ?_
    refine v_icmp_ne hX eX8_book_11 (tgt := 16) rfl ⟨by omega, by omega⟩ ⟨by omega, by omega⟩ (fun c11 => False.elim ((c11 h60))) (fun c11 => ?_)
    refine v_iconst hX eX8_book_14 ?_
    exact v_ireturn hX hR eX8_book_15 rfl (hq)
  · rw [if_neg h60] at hq
    refine v_aload_n hX eX8_book_0 rfl ?_
    refine v_iconst hX eX8_book_1 ?_
    refine v_putI hX eX8_book_2 fi_X8_80 ⟨by decide, rfl⟩ ?_
    rw [hg]
    refine v_aload_n hX eX8_book_5 rfl ?_
    refine v_getI hX eX8_book_6 fi_X8_125 ⟨by decide, rfl⟩ ?_
    refine v_bipush hX eX8_book_9 (by decide) ?_
    refine v_icmp_ne hX eX8_book_11 (tgt := 16) rfl ⟨by omega, by omega⟩ ⟨by omega, by omega⟩ (fun c11 => ?_) (fun c11 => False.elim ((h60 c11)))
    refine v_aload_n hX eX8_book_16 rfl ?_
    refine v_aload_n hX eX8_book_17 rfl ?_
    refine v_getA hX eX8_book_18 fi_X8_26 ⟨by decide, rfl⟩ rfl ?_
    refine v_fnV hX eX8_book_21 lV_X8_157 ok_MX8_wrongOf ⟨by decide, rfl⟩ rfl ⟨rfl, Nat.le_of_ble_eq_true rfl⟩ (Nat.le_of_ble_eq_true rfl) (c_X8_wrongOf hI r hl ⟨by decide, rfl⟩ hcp hApS ht) rfl ?_
    try simp only [Int.toNat_natCast, Int.toNat_zero, Int.reduceToNat]
    refine v_if_eq hX eX8_book_24 (tgt := 29) rfl hfr (fun c24 => False.elim (((hf.resolve_right h60) c24))) (fun c24 => ?_)
    refine v_iconst hX eX8_book_27 ?_
    exact v_ireturn hX hR eX8_book_28 rfl (hq)
def UNx (g : Hp) (Y n : Nat) (x : Hp) : Prop := (∀ k b, ¬ (k = 49 ∧ b < n) → ¬ (k = 50 ∧ b < n) → x k b = g k b) ∧
  ∀ p, p < n → x 50 p = (if (p : Int) < g 66 Y then g 64 (8 * Y + p) else -1) ∧ x 49 p = g 49 p - (if (p : Int) < g 66 Y then pos1 (g 65 (8 * Y + p)) else 0)
theorem UNx_s {g x : Hp} {Y n : Nat} (b : UNx g Y n x) {v1 v2 : Int} (h1 : v1 = if (n : Int) < g 66 Y then g 64 (8 * Y + n) else -1) (h2 : v2 = g 49 n - (if (n : Int) < g 66 Y then pos1 (g 65 (8 * Y + n)) else 0)) : UNx g Y (n + 1) (up (up x 50 n v1) 49 n v2) := by
  obtain ⟨b1, b2⟩ := b
  constructor
  · intro k j a1 a2
    rw [up_ne (by omega), up_ne (by omega)]
    exact b1 k j (by omega) (by omega)
  · intro p hp
    by_cases e : p = n
    · subst e
      refine ⟨?_, ?_⟩
      · rw [up_ob (by decide), up_same, h1]
      · rw [up_same, h2]
    · obtain ⟨c1, c2⟩ := b2 p (by omega)
      refine ⟨?_, ?_⟩
      · rw [up_ob (by decide), up_ne (by omega)]; exact c1
      · rw [up_ne (by omega)]; exact c2
set_option maxHeartbeats 2000000 in
set_option maxRecDepth 20000 in
theorem c_X8_undo {d : Nat} {h g : Hp} (hg : up h 44 0 0 = g) (hn : 0 ≤ g 44 1 ∧ g 44 1 ≤ 8) (hY : 0 < g 44 31 ∧ g 44 31 ≤ 60) (h66 : 0 ≤ g 66 (g 44 31 - 1).toNat ∧ g 66 (g 44 31 - 1).toNat ≤ 8) (h65 : ∀ p, p < 8 → 0 ≤ g 65 (8 * (g 44 31 - 1).toNat + p) ∧ g 65 (8 * (g 44 31 - 1).toNat + p) ≤ 6) : Fr (d + 1) MX8_undo [mA 44] h (fun r x => r = some (mI (g 44 31 - 1)) ∧ UNx (up g 44 31 (g 44 31 - 1)) (g 44 31 - 1).toNat (g 44 1).toNat x) := by
  intro Q hq X hX hR
  obtain ⟨Y, hYe⟩ : ∃ Y : Nat, g 44 31 - 1 = Y := ⟨(g 44 31 - 1).toNat, by omega⟩
  rw [hYe, Int.toNat_natCast] at hq h66 h65
  have loop : ∀ i : Nat, i ≤ (g 44 1).toNat → ∀ x l2, UNx (up g 44 31 Y) Y i x → VW X 26 [some (mA 44), some (mI i), l2] [] x := by
    refine loop_up _ ?_ ?_
    · intro x l2 bx
      have x1 : x 44 1 = g 44 1 := by rw [bx.1 44 1 (by omega) (by omega), up_ne (by omega)]
      have x31 : x 44 31 = Y := by rw [bx.1 44 31 (by omega) (by omega), up_same]
      refine v_iload_n hX eX8_undo_26 rfl ?_
      refine v_aload_n hX eX8_undo_27 rfl ?_
      refine v_getI hX eX8_undo_28 fi_X8_84 ⟨by decide, rfl⟩ ?_
      rw [x1]
      refine v_icmp_ge hX eX8_undo_31 (tgt := 124) rfl ⟨by omega, by omega⟩ ⟨by omega, by omega⟩ (fun c31 => ?_) (fun c31 => False.elim ((by omega)))
      refine v_aload_n hX eX8_undo_124 rfl ?_
      refine v_getI hX eX8_undo_125 fi_X8_125 ⟨by decide, rfl⟩ ?_
      rw [x31]
      exact v_ireturn hX hR eX8_undo_128 rfl (hq _ _ ⟨rfl, bx⟩)
    · intro i hi ih x l2 bx
      have x1 : x 44 1 = g 44 1 := by rw [bx.1 44 1 (by omega) (by omega), up_ne (by omega)]
      have x31 : x 44 31 = Y := by rw [bx.1 44 31 (by omega) (by omega), up_same]
      have x49 : x 49 i = g 49 i := by rw [bx.1 49 i (by omega) (by omega), up_ob (by decide)]
      have xo : ∀ k b, k ≠ 49 → k ≠ 50 → k ≠ 44 → x k b = g k b := fun k b h1 h2 h3 => by rw [bx.1 k b (fun z => h1 z.1) (fun z => h2 z.1), up_ob h3]
      have g6 := h65 i (by omega)
      have ei : ((8 : Int) * Y + i).toNat = 8 * Y + i := by omega
      have u66 : up g 44 31 (Y : Int) 66 Y = g 66 Y := up_ob (by decide)
      have fin : ∀ v1 v2, v1 = (if (i : Int) < g 66 Y then g 64 (8 * Y + i) else -1) → v2 = g 49 i - (if (i : Int) < g 66 Y then pos1 (g 65 (8 * Y + i)) else 0) → ∀ l2, VW X 26 [some (mA 44), some (mI ((i + 1 : Nat) : Int)), l2] [] (up (up x 50 i v1) 49 i v2) := fun v1 v2 h1 h2 l2 => ih _ l2 (UNx_s bx (by rw [u66, up_ob (by decide)]; exact h1) (by rw [u66, up_ob (by decide), up_ob (by decide)]; exact h2))
      by_cases hk : (i : Int) < g 66 Y
      · have f1 := fun l2 => fin (g 64 (8 * Y + i)) (g 49 i - pos1 (g 65 (8 * Y + i))) (if_pos hk).symm (by rw [if_pos hk]) l2
        refine v_iload_n hX eX8_undo_26 rfl ?_
        refine v_aload_n hX eX8_undo_27 rfl ?_
        refine v_getI hX eX8_undo_28 fi_X8_84 ⟨by decide, rfl⟩ ?_
        rw [x1]
        refine v_icmp_ge hX eX8_undo_31 (tgt := 124) rfl ⟨by omega, by omega⟩ ⟨by omega, by omega⟩ (fun c31 => False.elim ((by omega))) (fun c31 => ?_)
        refine v_iload_n hX eX8_undo_34 rfl ?_
        refine v_aload_n hX eX8_undo_35 rfl ?_
        refine v_getA hX eX8_undo_36 fi_X8_74 ⟨by decide, rfl⟩ rfl ?_
        refine v_aload_n hX eX8_undo_39 rfl ?_
        refine v_getI hX eX8_undo_40 fi_X8_125 ⟨by decide, rfl⟩ ?_
        rw [x31]
        refine v_iald hX eX8_undo_43 (by first | exact ⟨by decide, rfl⟩ | exact AR_rk (by omega)) ⟨by omega, by omega⟩ ?_
        try simp only [Int.toNat_natCast, Int.toNat_zero, Int.reduceToNat]
        rw [xo 66 _ (by decide) (by decide) (by decide)]
        refine v_icmp_ge hX eX8_undo_44 (tgt := 51) rfl ⟨by omega, by omega⟩ ⟨by omega, by omega⟩ (fun c44 => False.elim ((by omega))) (fun c44 => ?_)
        refine v_iconst hX eX8_undo_47 ?_
        refine v_goto hX eX8_undo_48 (tgt := 52) rfl ?_
        refine v_istore_n hX eX8_undo_52 rfl rfl ?_
        refine v_aload_n hX eX8_undo_53 rfl ?_
        refine v_getA hX eX8_undo_54 fi_X8_26 ⟨by decide, rfl⟩ rfl ?_
        refine v_iload_n hX eX8_undo_57 rfl ?_
        refine v_iload_n hX eX8_undo_58 rfl ?_
        refine v_if_eq hX eX8_undo_59 (tgt := 79) rfl ⟨by omega, by omega⟩ (fun c59 => False.elim ((absurd c59 (by decide)))) (fun c59 => ?_)
        refine v_aload_n hX eX8_undo_62 rfl ?_
        refine v_getA hX eX8_undo_63 fi_X8_68 ⟨by decide, rfl⟩ rfl ?_
        refine v_bipush hX eX8_undo_66 (by decide) ?_
        refine v_aload_n hX eX8_undo_68 rfl ?_
        refine v_getI hX eX8_undo_69 fi_X8_125 ⟨by decide, rfl⟩ ?_
        rw [x31]
        refine v_imul hX eX8_undo_72 ?_
        refine v_iload_n hX eX8_undo_73 rfl ?_
        refine v_iadd hX eX8_undo_74 ?_
        refine v_iald hX eX8_undo_75 (by first | exact ⟨by decide, rfl⟩ | exact AR_rk (by omega)) ⟨by omega, by omega⟩ ?_
        try simp only [Int.toNat_natCast, Int.toNat_zero, Int.reduceToNat]
        rw [ei, xo 64 _ (by decide) (by decide) (by decide)]
        refine v_goto hX eX8_undo_76 (tgt := 80) rfl ?_
        refine v_iast hX eX8_undo_80 (by first | exact ⟨by decide, rfl⟩ | exact AR_rk (by omega)) ⟨by omega, by omega⟩ ?_
        try simp only [Int.toNat_natCast, Int.toNat_zero, Int.reduceToNat]
        refine v_aload_n hX eX8_undo_81 rfl ?_
        refine v_getA hX eX8_undo_82 fi_X8_23 ⟨by decide, rfl⟩ rfl ?_
        refine v_iload_n hX eX8_undo_85 rfl ?_
        refine v_dup2 hX eX8_undo_86 rfl rfl ?_
        refine v_iald hX eX8_undo_87 (by first | exact ⟨by decide, rfl⟩ | exact AR_rk (by omega)) ⟨by omega, by omega⟩ ?_
        try simp only [Int.toNat_natCast, Int.toNat_zero, Int.reduceToNat]
        rw [up_ob (by decide), x49]
        refine v_iload_n hX eX8_undo_88 rfl ?_
        refine v_if_eq hX eX8_undo_89 (tgt := 115) rfl ⟨by omega, by omega⟩ (fun c89 => False.elim ((absurd c89 (by decide)))) (fun c89 => ?_)
        refine v_iconst hX eX8_undo_92 ?_
        refine v_aload_n hX eX8_undo_93 rfl ?_
        refine v_getA hX eX8_undo_94 fi_X8_71 ⟨by decide, rfl⟩ rfl ?_
        refine v_bipush hX eX8_undo_97 (by decide) ?_
        refine v_aload_n hX eX8_undo_99 rfl ?_
        refine v_getI hX eX8_undo_100 fi_X8_125 ⟨by decide, rfl⟩ ?_
        rw [up_ob (by decide), x31]
        refine v_imul hX eX8_undo_103 ?_
        refine v_iload_n hX eX8_undo_104 rfl ?_
        refine v_iadd hX eX8_undo_105 ?_
        refine v_iald hX eX8_undo_106 (by first | exact ⟨by decide, rfl⟩ | exact AR_rk (by omega)) ⟨by omega, by omega⟩ ?_
        try simp only [Int.toNat_natCast, Int.toNat_zero, Int.reduceToNat]
        rw [ei, up_ob (by decide), xo 65 _ (by decide) (by decide) (by decide)]
        refine v_iconst hX eX8_undo_107 ?_
        refine v_isub hX eX8_undo_108 ?_
        refine v_max hX eX8_undo_109 lX_X8_247 ⟨by decide, by decide⟩ ⟨by omega, by omega⟩ (Nat.le_of_ble_eq_true rfl) ?_
        rw [max_pos g6.1]
        try simp only [Int.toNat_natCast, Int.toNat_zero, Int.reduceToNat]
        refine v_goto hX eX8_undo_112 (tgt := 116) rfl ?_
        refine v_isub hX eX8_undo_116 ?_
        refine v_iast hX eX8_undo_117 (by first | exact ⟨by decide, rfl⟩ | exact AR_rk (by omega)) ⟨by omega, by omega⟩ ?_
        try simp only [Int.toNat_natCast, Int.toNat_zero, Int.reduceToNat]
        refine v_iinc hX eX8_undo_118 rfl rfl rfl ?_
        refine v_goto hX eX8_undo_121 (tgt := 26) rfl ?_
        exact f1 _
      · have f1 := fun l2 => fin (-1) (g 49 i - 0) (if_neg hk).symm (by rw [if_neg hk]) l2
        refine v_iload_n hX eX8_undo_26 rfl ?_
        refine v_aload_n hX eX8_undo_27 rfl ?_
        refine v_getI hX eX8_undo_28 fi_X8_84 ⟨by decide, rfl⟩ ?_
        rw [x1]
        refine v_icmp_ge hX eX8_undo_31 (tgt := 124) rfl ⟨by omega, by omega⟩ ⟨by omega, by omega⟩ (fun c31 => False.elim ((by omega))) (fun c31 => ?_)
        refine v_iload_n hX eX8_undo_34 rfl ?_
        refine v_aload_n hX eX8_undo_35 rfl ?_
        refine v_getA hX eX8_undo_36 fi_X8_74 ⟨by decide, rfl⟩ rfl ?_
        refine v_aload_n hX eX8_undo_39 rfl ?_
        refine v_getI hX eX8_undo_40 fi_X8_125 ⟨by decide, rfl⟩ ?_
        rw [x31]
        refine v_iald hX eX8_undo_43 (by first | exact ⟨by decide, rfl⟩ | exact AR_rk (by omega)) ⟨by omega, by omega⟩ ?_
        try simp only [Int.toNat_natCast, Int.toNat_zero, Int.reduceToNat]
        rw [xo 66 _ (by decide) (by decide) (by decide)]
        refine v_icmp_ge hX eX8_undo_44 (tgt := 51) rfl ⟨by omega, by omega⟩ ⟨by omega, by omega⟩ (fun c44 => ?_) (fun c44 => False.elim ((by omega)))
        refine v_iconst hX eX8_undo_51 ?_
        refine v_istore_n hX eX8_undo_52 rfl rfl ?_
        refine v_aload_n hX eX8_undo_53 rfl ?_
        refine v_getA hX eX8_undo_54 fi_X8_26 ⟨by decide, rfl⟩ rfl ?_
        refine v_iload_n hX eX8_undo_57 rfl ?_
        refine v_iload_n hX eX8_undo_58 rfl ?_
        refine v_if_eq hX eX8_undo_59 (tgt := 79) rfl ⟨by omega, by omega⟩ (fun c59 => ?_) (fun c59 => False.elim ((absurd rfl c59)))
        refine v_iconst hX eX8_undo_79 ?_
        refine v_iast hX eX8_undo_80 (by first | exact ⟨by decide, rfl⟩ | exact AR_rk (by omega)) ⟨by omega, by omega⟩ ?_
        try simp only [Int.toNat_natCast, Int.toNat_zero, Int.reduceToNat]
        refine v_aload_n hX eX8_undo_81 rfl ?_
        refine v_getA hX eX8_undo_82 fi_X8_23 ⟨by decide, rfl⟩ rfl ?_
        refine v_iload_n hX eX8_undo_85 rfl ?_
        refine v_dup2 hX eX8_undo_86 rfl rfl ?_
        refine v_iald hX eX8_undo_87 (by first | exact ⟨by decide, rfl⟩ | exact AR_rk (by omega)) ⟨by omega, by omega⟩ ?_
        try simp only [Int.toNat_natCast, Int.toNat_zero, Int.reduceToNat]
        rw [up_ob (by decide), x49]
        refine v_iload_n hX eX8_undo_88 rfl ?_
        refine v_if_eq hX eX8_undo_89 (tgt := 115) rfl ⟨by omega, by omega⟩ (fun c89 => ?_) (fun c89 => False.elim ((absurd rfl c89)))
        refine v_iconst hX eX8_undo_115 ?_
        refine v_isub hX eX8_undo_116 ?_
        refine v_iast hX eX8_undo_117 (by first | exact ⟨by decide, rfl⟩ | exact AR_rk (by omega)) ⟨by omega, by omega⟩ ?_
        try simp only [Int.toNat_natCast, Int.toNat_zero, Int.reduceToNat]
        refine v_iinc hX eX8_undo_118 rfl rfl rfl ?_
        refine v_goto hX eX8_undo_121 (tgt := 26) rfl ?_
        exact f1 _
  show VW X 0 [some (mA 44), none, none] [] h
  refine v_aload_n hX eX8_undo_0 rfl ?_
  refine v_iconst hX eX8_undo_1 ?_
  refine v_putI hX eX8_undo_2 fi_X8_80 ⟨by decide, rfl⟩ ?_
  rw [hg]
  refine v_aload_n hX eX8_undo_5 rfl ?_
  refine v_getI hX eX8_undo_6 fi_X8_125 ⟨by decide, rfl⟩ ?_
  refine v_if_ne hX eX8_undo_9 (tgt := 14) rfl ⟨by omega, by omega⟩ (fun c9 => ?_) (fun c9 => False.elim ((by omega)))
  refine v_aload_n hX eX8_undo_14 rfl ?_
  refine v_dup hX eX8_undo_15 rfl ?_
  refine v_getI hX eX8_undo_16 fi_X8_125 ⟨by decide, rfl⟩ ?_
  refine v_iconst hX eX8_undo_19 ?_
  refine v_isub hX eX8_undo_20 ?_
  rw [hYe]
  refine v_putI hX eX8_undo_21 fi_X8_125 ⟨by decide, rfl⟩ ?_
  refine v_iconst hX eX8_undo_24 ?_
  refine v_istore_n hX eX8_undo_25 rfl rfl ?_
  exact loop 0 (by omega) _ _ ⟨fun _ _ _ _ => rfl, fun p hp => absurd hp (Nat.not_lt_zero _)⟩
set_option maxHeartbeats 2000000 in
set_option maxRecDepth 20000 in
theorem c_X8_undo_N {d : Nat} {h g : Hp} (hg : up h 44 0 0 = g) (hY : g 44 31 = 0) : Fn (d + 1) MX8_undo [mA 44] h (some (mI (-1))) g := by
  intro Q hq X hX hR
  show VW X 0 [some (mA 44), none, none] [] h
  refine v_aload_n hX eX8_undo_0 rfl ?_
  refine v_iconst hX eX8_undo_1 ?_
  refine v_putI hX eX8_undo_2 fi_X8_80 ⟨by decide, rfl⟩ ?_
  rw [hg]
  refine v_aload_n hX eX8_undo_5 rfl ?_
  refine v_getI hX eX8_undo_6 fi_X8_125 ⟨by decide, rfl⟩ ?_
  refine v_if_ne hX eX8_undo_9 (tgt := 14) rfl ⟨by omega, by omega⟩ (fun c9 => False.elim ((by omega))) (fun c9 => ?_)
  refine v_iconst hX eX8_undo_12 ?_
  exact v_ireturn hX hR eX8_undo_13 rfl (hq)
