/-! flt speaks of its pupils, projects and THE PLAN alone -/
theorem flt_congr {c c' : Hp} (hI : RI c) (h1 : c' 1 = c 1) (h4 : c' 4 = c 4) (hp : ∀ p, p < (c 1 3).toNat → c' (23 + p) 1 = c (23 + p) 1 ∧ c' (23 + p) 5 = c (23 + p) 5 ∧ c' (23 + p) 6 = c (23 + p) 6) (hq : ∀ q, q < 5 → c' (39 + q) = c (39 + q)) : flt c' = flt c := by
  have hn := hI.n
  have hm := hI.q
  have eg : ∀ q : Int, grp c' q = grp c q := fun q => by unfold grp; rw [h1, h4]
  have ep : ∀ f p, p < (c 1 3).toNat → (phas c' f p ↔ phas c f p) := fun f p hpp => by
    obtain ⟨p1, p5, p6⟩ := hp p hpp
    unfold phas apB
    rw [p5, p6, h4, eg]
  have ej : ∀ f q, q < 5 → (jhas c' f q ↔ jhas c f q) := fun f q hqq => by
    have e39 := hq q hqq
    have eh : ∀ g b, cntF (hasF c' g b) (c 1 3).toNat = cntF (hasF c g b) (c 1 3).toNat := fun g b => cntF_congr _ (fun p hpp => by
      unfold hasF skB
      rw [(hp p hpp).1])
    unfold jhas ghas tks rtw lkl lks neB rtw
    rw [eg, e39, h1]
    simp only [eh]
  have ek : ∀ f, fltK c' f = fltK c f := fun f => by
    unfold fltK
    rw [h1]
    split
    · exact firstI_congr _ _ (fun i _ hi => ej f i (by omega))
    · exact firstI_congr _ _ (fun i _ hi => ep f i (by omega))
  have ef : ∀ k w, fltFrom c' k w = fltFrom c k w := by
    intro k
    induction k with
    | zero => intro w; rfl
    | succ k ih => intro w; rw [fltFrom, fltFrom, ek, ih]
  exact ef 7 1
theorem plF_iff {h : Hp} {p : Nat} : plF h p = true ↔ h (23 + p) 6 = 1 ∧ h 4 p ≠ -1 := by simp [plF, prF]
/-! would two change places? -/
theorem swp4_at {h : Hp} {a b p : Nat} : swp h 4 a b 4 p = if p = a then h 4 b else if p = b then h 4 a else h 4 p := by
  unfold swp
  simp only [up]
  by_cases h1 : p = b
  · subst h1
    by_cases h2 : p = a
    · subst h2; simp
    · simp [h2]
  · by_cases h2 : p = a
    · simp [h1, h2]
      intro z; rw [z]
    · simp [h1, h2]
def PQ (h : Hp) : Prop := ∀ p, p < (h 1 3).toNat → h 50 p = h 4 p ∧ -1 ≤ h 4 p ∧ h 4 p < h 1 4
set_option maxHeartbeats 2000000 in
set_option maxRecDepth 20000 in
theorem c_X8_wouldSwap {d : Nat} {h : Hp} {a b : Nat} (hI : RI h) (r : RLr h) (hl : LDI h) (hApS : ∀ a, a < (h 1 3).toNat → apB h a a = false) (w : WL h) (hab : a < b) (hb : b < (h 1 3).toNat) (ht : PQ h) : Fr (d + 3) MX8_wouldSwap [mA 44, mI a, mI b] h (fun r x => r = some (mI (b01 (swOk h a b))) ∧ ∃ f, x = setR h 60 f) := by
  intro Q hq X hX hR
  have hn := hI.n
  have hm := hI.q
  have en := r.n
  obtain ⟨ta, ta1, ta2⟩ := ht a (by omega)
  obtain ⟨tb, tb1, tb2⟩ := ht b hb
  have e46a := (r.pu (p := a) (by omega)).2
  have e46b := (r.pu (p := b) hb).2
  have z46a := (hI.pu (p := a) (by omega)).2.2.2.2.2.1
  have z46b := (hI.pu (p := b) (by omega)).2.2.2.2.2.1
  have fin0 : ¬ swOk h a b → Q (some (mI 0)) h := fun z => hq _ _ ⟨by rw [b01_f z], h 60, setR_self.symm⟩
  have rka := w.rk hI (p := a) (by omega)
  have rkb := w.rk hI (p := b) hb
  have ra := rkI_rng hI (p := a) (by omega)
  have rb := rkI_rng hI (p := b) (by omega)
  have rpa : h 4 a ≠ -1 → rkP h a = rkI h a (h 4 a) := fun z => by unfold rkP; rw [if_pos ⟨by omega, z⟩]
  have rpb : h 4 b ≠ -1 → rkP h b = rkI h b (h 4 b) := fun z => by unfold rkP; rw [if_pos ⟨by omega, z⟩]
  have rest : bgP h a b → ∀ l3, VW X 105 [some (mA 44), some (mI a), some (mI b), l3] [] h := by
    intro hbg l3
    have last : ∀ f : Nat → Int, (∀ p, p < (h 1 3).toNat → f p = swp h 4 a b 4 p) → ∀ l3, VW X 161 [some (mA 44), some (mI a), some (mI b), l3] [] (setR h 60 f) := by
      intro f hf l3
      have sr : SR h (setR h 60 f) := ⟨fun k hk => setR_ne (by omega), fun k hk => setR_ne (by omega), by rw [setR_ne (by decide)], by rw [setR_ne (by decide)]⟩
      have xI := sr.ri hI
      have xr := sr.rl hI r
      have x1 : setR h 60 f 1 = h 1 := setR_ne (by decide)
      have x4 : setR h 60 f 4 = h 4 := setR_ne (by decide)
      have xl : LDI (setR h 60 f) := fun q hq0 => by
        rw [x1] at hq0
        have := hl q hq0
        rw [setR_ne (by omega), x1]
        exact this
      have xA : ∀ i, i < (setR h 60 f 1 3).toNat → apB (setR h 60 f) i i = false := fun i hi => by
        rw [x1] at hi
        unfold apB
        rw [setR_ne (by omega)]
        exact hApS i hi
      have e4 : ∀ p, swp (setR h 60 f) 4 a b 4 p = swp h 4 a b 4 p := fun p => by rw [swp4_at, swp4_at, x4]
      have cp : CP (setR h 60 f) (swp (setR h 60 f) 4 a b) := fun k hk => by
        unfold swp
        rw [up_obf hk, up_obf hk]
      have fe : flt (swp (setR h 60 f) 4 a b) = flt (swp h 4 a b) := by
        have sI : RI (swp h 4 a b) := hI.congr (fun k hk => by unfold swp; rw [up_obf (by omega), up_obf (by omega)])
        have o : ∀ k, k ≠ 4 → k ≠ 60 → swp (setR h 60 f) 4 a b k = swp h 4 a b k := fun k k4 k60 => by
          unfold swp
          rw [up_obf k4, up_obf k4, up_obf k4, up_obf k4, setR_ne k60]
        have s1 : swp h 4 a b 1 = h 1 := by unfold swp; rw [up_obf (by decide), up_obf (by decide)]
        refine flt_congr sI (o 1 (by decide) (by decide)) (funext e4) (fun p hp => ?_) (fun q hq0 => o _ (by omega) (by omega))
        rw [s1] at hp
        rw [o (23 + p) (by omega) (by omega)]
        exact ⟨rfl, rfl, rfl⟩
      have fc : swOk h a b ↔ flt (swp (setR h 60 f) 4 a b) = 0 := by rw [fe]; exact ⟨fun z => z.2, fun z => ⟨hbg, z⟩⟩
      have htx : ∀ p, p < (setR h 60 f 1 3).toNat → setR h 60 f 60 p = swp (setR h 60 f) 4 a b 4 p ∧ -1 ≤ swp (setR h 60 f) 4 a b 4 p ∧ swp (setR h 60 f) 4 a b 4 p < setR h 60 f 1 4 := fun p hp => by
        rw [x1] at hp ⊢
        have := ht p hp
        rw [setR_same, e4, hf p hp, swp4_at]
        refine ⟨rfl, ?_⟩
        split
        · omega
        · split <;> omega
      have fr := flt_rng (swp_RI xI (a := a) (b := b))
      refine v_aload_n hX eX8_wouldSwap_161 rfl ?_
      refine v_aload_n hX eX8_wouldSwap_162 rfl ?_
      refine v_getA hX eX8_wouldSwap_163 fi_X8_56 ⟨by decide, rfl⟩ rfl ?_
      refine v_fnV hX eX8_wouldSwap_166 lV_X8_157 ok_MX8_wrongOf ⟨by decide, rfl⟩ rfl ⟨rfl, Nat.le_of_ble_eq_true rfl⟩ (Nat.le_of_ble_eq_true rfl) (c_X8_wrongOf xI xr xl ⟨by decide, rfl⟩ cp xA htx) rfl ?_
      try simp only [Int.toNat_natCast, Int.toNat_zero, Int.reduceToNat]
      refine v_if_ne hX eX8_wouldSwap_169 (tgt := 176) rfl ⟨by omega, by omega⟩ (fun c169 => ?_) (fun c169 => ?_)
      · refine v_iconst hX eX8_wouldSwap_176 ?_
        exact v_zreturn hX hR eX8_wouldSwap_177 rfl (by omega) (hq _ _ ⟨by rw [b01_f (fun z => c169 (fc.mp z))], f, rfl⟩)
      · refine v_iconst hX eX8_wouldSwap_172 ?_
        refine v_goto hX eX8_wouldSwap_173 (tgt := 177) rfl ?_
        exact v_zreturn hX hR eX8_wouldSwap_177 rfl (by omega) (hq _ _ ⟨by rw [b01_t (fc.mpr c169)], f, rfl⟩)
    have loop : ∀ i : Nat, i ≤ (h 1 3).toNat → ∀ f : Nat → Int, (∀ p, p < i → f p = swp h 4 a b 4 p) → VW X 107 [some (mA 44), some (mI a), some (mI b), some (mI i)] [] (setR h 60 f) := by
      refine loop_up _ ?_ ?_
      · intro f hf
        refine v_iload_n hX eX8_wouldSwap_107 rfl ?_
        refine v_aload_n hX eX8_wouldSwap_108 rfl ?_
        refine v_getI hX eX8_wouldSwap_109 fi_X8_84 ⟨by decide, rfl⟩ ?_
        rw [setR_ne (by decide)]
        refine v_icmp_ge hX eX8_wouldSwap_112 (tgt := 161) rfl ⟨by omega, by omega⟩ ⟨by omega, by omega⟩ (fun c112 => ?_) (fun c112 => False.elim ((by omega)))
        exact last f hf _
      · intro i hi ih f hf
        obtain ⟨ti, ti1, ti2⟩ := ht i hi
        have s50 : setR h 60 f 50 = h 50 := setR_ne (by decide)
        have put : ∀ v, v = swp h 4 a b 4 i → VW X 154 [some (mA 44), some (mI a), some (mI b), some (mI i)] [mI v, mI i, mA 60] (setR h 60 f) := by
          intro v hv
          have nx := ih (fun p => if p = i then v else f p) (fun p hp => by
            show (if p = i then v else f p) = _
            by_cases e : p = i
            · rw [if_pos e, hv, e]
            · rw [if_neg e]; exact hf p (by omega))
          have eu : up (setR h 60 f) 60 i v = setR h 60 (fun p => if p = i then v else f p) := by
            funext k j
            simp only [up, setR]
            by_cases hk : k = 60
            · subst hk; simp
            · simp [hk]
          refine v_iast hX eX8_wouldSwap_154 (by first | exact ⟨by decide, rfl⟩ | exact AR_rk (by omega)) ⟨by omega, by omega⟩ ?_
          try simp only [Int.toNat_natCast, Int.toNat_zero, Int.reduceToNat]
          rw [eu]
          refine v_iinc hX eX8_wouldSwap_155 rfl rfl rfl ?_
          refine v_goto hX eX8_wouldSwap_158 (tgt := 107) rfl ?_
          exact nx
        refine v_iload_n hX eX8_wouldSwap_107 rfl ?_
        refine v_aload_n hX eX8_wouldSwap_108 rfl ?_
        refine v_getI hX eX8_wouldSwap_109 fi_X8_84 ⟨by decide, rfl⟩ ?_
        rw [setR_ne (by decide)]
        refine v_icmp_ge hX eX8_wouldSwap_112 (tgt := 161) rfl ⟨by omega, by omega⟩ ⟨by omega, by omega⟩ (fun c112 => False.elim ((by omega))) (fun c112 => ?_)
        refine v_aload_n hX eX8_wouldSwap_115 rfl ?_
        refine v_getA hX eX8_wouldSwap_116 fi_X8_56 ⟨by decide, rfl⟩ rfl ?_
        refine v_iload_n hX eX8_wouldSwap_119 rfl ?_
        refine v_iload_n hX eX8_wouldSwap_120 rfl ?_
        refine v_iload_n hX eX8_wouldSwap_121 rfl ?_
        refine v_icmp_ne hX eX8_wouldSwap_122 (tgt := 134) rfl ⟨by omega, by omega⟩ ⟨by omega, by omega⟩ (fun c122 => ?_) (fun c122 => ?_)
        · refine v_iload_n hX eX8_wouldSwap_134 rfl ?_
          refine v_iload_n hX eX8_wouldSwap_135 rfl ?_
          refine v_icmp_ne hX eX8_wouldSwap_136 (tgt := 148) rfl ⟨by omega, by omega⟩ ⟨by omega, by omega⟩ (fun c136 => ?_) (fun c136 => ?_)
          · refine v_aload_n hX eX8_wouldSwap_148 rfl ?_
            refine v_getA hX eX8_wouldSwap_149 fi_X8_26 ⟨by decide, rfl⟩ rfl ?_
            refine v_iload_n hX eX8_wouldSwap_152 rfl ?_
            refine v_iald hX eX8_wouldSwap_153 (by first | exact ⟨by decide, rfl⟩ | exact AR_rk (by omega)) ⟨by omega, by omega⟩ ?_
            try simp only [Int.toNat_natCast, Int.toNat_zero, Int.reduceToNat]
            rw [s50]
            refine put _ ?_
            rw [swp4_at, if_neg (by omega), if_neg (by omega), ti]
          · refine v_aload_n hX eX8_wouldSwap_139 rfl ?_
            refine v_getA hX eX8_wouldSwap_140 fi_X8_26 ⟨by decide, rfl⟩ rfl ?_
            refine v_iload_n hX eX8_wouldSwap_143 rfl ?_
            refine v_iald hX eX8_wouldSwap_144 (by first | exact ⟨by decide, rfl⟩ | exact AR_rk (by omega)) ⟨by omega, by omega⟩ ?_
            try simp only [Int.toNat_natCast, Int.toNat_zero, Int.reduceToNat]
            rw [s50]
            refine v_goto hX eX8_wouldSwap_145 (tgt := 154) rfl ?_
            refine put _ ?_
            rw [swp4_at, if_neg (by omega), if_pos (by omega), ta]
        · refine v_aload_n hX eX8_wouldSwap_125 rfl ?_
          refine v_getA hX eX8_wouldSwap_126 fi_X8_26 ⟨by decide, rfl⟩ rfl ?_
          refine v_iload_n hX eX8_wouldSwap_129 rfl ?_
          refine v_iald hX eX8_wouldSwap_130 (by first | exact ⟨by decide, rfl⟩ | exact AR_rk (by omega)) ⟨by omega, by omega⟩ ?_
          try simp only [Int.toNat_natCast, Int.toNat_zero, Int.reduceToNat]
          rw [s50]
          refine v_goto hX eX8_wouldSwap_131 (tgt := 154) rfl ?_
          refine put _ ?_
          rw [swp4_at, if_pos (by omega), tb]
    have l0 := loop 0 (by omega) (h 60) (fun p hp => absurd hp (Nat.not_lt_zero _))
    rw [setR_self] at l0
    refine v_iconst hX eX8_wouldSwap_105 ?_
    refine v_istore_n hX eX8_wouldSwap_106 rfl rfl ?_
    exact l0
  have body : h (23 + a) 6 = 1 → h (23 + b) 6 = 1 → h 4 a ≠ -1 → h 4 b ≠ -1 → VW X 53 [some (mA 44), some (mI a), some (mI b), none] [] h := by
    intro h1 h2 na nb
    have pa : plF h a = true := plF_iff.mpr ⟨h1, na⟩
    have pb' : plF h b = true := plF_iff.mpr ⟨h2, nb⟩
    have ra1 := ra (h 4 a)
    have ra2 := ra (h 4 b)
    have rb1 := rb (h 4 a)
    have rb2 := rb (h 4 b)
    refine v_aload_n hX eX8_wouldSwap_53 rfl ?_
    refine v_iload_n hX eX8_wouldSwap_54 rfl ?_
    refine v_aload_n hX eX8_wouldSwap_55 rfl ?_
    refine v_getA hX eX8_wouldSwap_56 fi_X8_26 ⟨by decide, rfl⟩ rfl ?_
    refine v_iload_n hX eX8_wouldSwap_59 rfl ?_
    refine v_iald hX eX8_wouldSwap_60 (by first | exact ⟨by decide, rfl⟩ | exact AR_rk (by omega)) ⟨by omega, by omega⟩ ?_
    try simp only [Int.toNat_natCast, Int.toNat_zero, Int.reduceToNat]
    rw [tb]
    refine v_fnV hX eX8_wouldSwap_61 lV_X8_136 ok_MX8_rankOf ⟨by decide, rfl⟩ rfl ⟨rfl, Nat.le_of_ble_eq_true rfl⟩ (Nat.le_of_ble_eq_true rfl) (c_X8_rankOf (by omega) rka ⟨by omega, by omega⟩) rfl ?_
    try simp only [Int.toNat_natCast, Int.toNat_zero, Int.reduceToNat]
    refine v_aload_n hX eX8_wouldSwap_64 rfl ?_
    refine v_iload_n hX eX8_wouldSwap_65 rfl ?_
    refine v_aload_n hX eX8_wouldSwap_66 rfl ?_
    refine v_getA hX eX8_wouldSwap_67 fi_X8_26 ⟨by decide, rfl⟩ rfl ?_
    refine v_iload_n hX eX8_wouldSwap_70 rfl ?_
    refine v_iald hX eX8_wouldSwap_71 (by first | exact ⟨by decide, rfl⟩ | exact AR_rk (by omega)) ⟨by omega, by omega⟩ ?_
    try simp only [Int.toNat_natCast, Int.toNat_zero, Int.reduceToNat]
    rw [ta]
    refine v_fnV hX eX8_wouldSwap_72 lV_X8_136 ok_MX8_rankOf ⟨by decide, rfl⟩ rfl ⟨rfl, Nat.le_of_ble_eq_true rfl⟩ (Nat.le_of_ble_eq_true rfl) (c_X8_rankOf (by omega) rka ⟨by omega, by omega⟩) rfl ?_
    try simp only [Int.toNat_natCast, Int.toNat_zero, Int.reduceToNat]
    refine v_icmp_ge hX eX8_wouldSwap_75 (tgt := 103) rfl ⟨by omega, by omega⟩ ⟨by omega, by omega⟩ (fun c75 => ?_) (fun c75 => ?_)
    · refine v_iconst hX eX8_wouldSwap_103 ?_
      exact v_zreturn hX hR eX8_wouldSwap_104 rfl (by omega) (fin0 (fun z => by have := z.1.2.2.1; unfold gnP at this; rw [rpa na] at this; omega))
    · refine v_aload_n hX eX8_wouldSwap_78 rfl ?_
      refine v_iload_n hX eX8_wouldSwap_79 rfl ?_
      refine v_aload_n hX eX8_wouldSwap_80 rfl ?_
      refine v_getA hX eX8_wouldSwap_81 fi_X8_26 ⟨by decide, rfl⟩ rfl ?_
      refine v_iload_n hX eX8_wouldSwap_84 rfl ?_
      refine v_iald hX eX8_wouldSwap_85 (by first | exact ⟨by decide, rfl⟩ | exact AR_rk (by omega)) ⟨by omega, by omega⟩ ?_
      try simp only [Int.toNat_natCast, Int.toNat_zero, Int.reduceToNat]
      rw [ta]
      refine v_fnV hX eX8_wouldSwap_86 lV_X8_136 ok_MX8_rankOf ⟨by decide, rfl⟩ rfl ⟨rfl, Nat.le_of_ble_eq_true rfl⟩ (Nat.le_of_ble_eq_true rfl) (c_X8_rankOf (by omega) rkb ⟨by omega, by omega⟩) rfl ?_
      try simp only [Int.toNat_natCast, Int.toNat_zero, Int.reduceToNat]
      refine v_aload_n hX eX8_wouldSwap_89 rfl ?_
      refine v_iload_n hX eX8_wouldSwap_90 rfl ?_
      refine v_aload_n hX eX8_wouldSwap_91 rfl ?_
      refine v_getA hX eX8_wouldSwap_92 fi_X8_26 ⟨by decide, rfl⟩ rfl ?_
      refine v_iload_n hX eX8_wouldSwap_95 rfl ?_
      refine v_iald hX eX8_wouldSwap_96 (by first | exact ⟨by decide, rfl⟩ | exact AR_rk (by omega)) ⟨by omega, by omega⟩ ?_
      try simp only [Int.toNat_natCast, Int.toNat_zero, Int.reduceToNat]
      rw [tb]
      refine v_fnV hX eX8_wouldSwap_97 lV_X8_136 ok_MX8_rankOf ⟨by decide, rfl⟩ rfl ⟨rfl, Nat.le_of_ble_eq_true rfl⟩ (Nat.le_of_ble_eq_true rfl) (c_X8_rankOf (by omega) rkb ⟨by omega, by omega⟩) rfl ?_
      try simp only [Int.toNat_natCast, Int.toNat_zero, Int.reduceToNat]
      refine v_icmp_lt hX eX8_wouldSwap_100 (tgt := 105) rfl ⟨by omega, by omega⟩ ⟨by omega, by omega⟩ (fun c100 => ?_) (fun c100 => ?_)
      · exact rest ⟨pa, pb', by unfold gnP; rw [rpa na]; omega, by unfold gnP; rw [rpb nb]; omega⟩ _
      · refine v_iconst hX eX8_wouldSwap_103 ?_
        exact v_zreturn hX hR eX8_wouldSwap_104 rfl (by omega) (fin0 (fun z => by have := z.1.2.2.2; unfold gnP at this; rw [rpb nb] at this; omega))
  show VW X 0 [some (mA 44), some (mI a), some (mI b), none] [] h
  refine v_aload_n hX eX8_wouldSwap_0 rfl ?_
  refine v_getA hX eX8_wouldSwap_1 fi_X8_13 ⟨by decide, rfl⟩ rfl ?_
  refine v_iload_n hX eX8_wouldSwap_4 rfl ?_
  refine v_zald hX eX8_wouldSwap_5 (by first | exact ⟨by decide, rfl⟩ | exact AR_rk (by omega)) ⟨by omega, by omega⟩ ?_
  try simp only [Int.toNat_natCast, Int.toNat_zero, Int.reduceToNat]
  refine v_if_eq hX eX8_wouldSwap_6 (tgt := 51) rfl ⟨by omega, by omega⟩ (fun c6 => ?_) (fun c6 => ?_)
  · refine v_iconst hX eX8_wouldSwap_51 ?_
    exact v_zreturn hX hR eX8_wouldSwap_52 rfl (by omega) (fin0 (fun z => by have := (plF_iff.mp z.1.1).1; omega))
  · refine v_aload_n hX eX8_wouldSwap_9 rfl ?_
    refine v_getA hX eX8_wouldSwap_10 fi_X8_13 ⟨by decide, rfl⟩ rfl ?_
    refine v_iload_n hX eX8_wouldSwap_13 rfl ?_
    refine v_zald hX eX8_wouldSwap_14 (by first | exact ⟨by decide, rfl⟩ | exact AR_rk (by omega)) ⟨by omega, by omega⟩ ?_
    try simp only [Int.toNat_natCast, Int.toNat_zero, Int.reduceToNat]
    refine v_if_eq hX eX8_wouldSwap_15 (tgt := 51) rfl ⟨by omega, by omega⟩ (fun c15 => ?_) (fun c15 => ?_)
    · refine v_iconst hX eX8_wouldSwap_51 ?_
      exact v_zreturn hX hR eX8_wouldSwap_52 rfl (by omega) (fin0 (fun z => by have := (plF_iff.mp z.1.2.1).1; omega))
    · refine v_aload_n hX eX8_wouldSwap_18 rfl ?_
      refine v_getA hX eX8_wouldSwap_19 fi_X8_26 ⟨by decide, rfl⟩ rfl ?_
      refine v_iload_n hX eX8_wouldSwap_22 rfl ?_
      refine v_iald hX eX8_wouldSwap_23 (by first | exact ⟨by decide, rfl⟩ | exact AR_rk (by omega)) ⟨by omega, by omega⟩ ?_
      try simp only [Int.toNat_natCast, Int.toNat_zero, Int.reduceToNat]
      refine v_if_lt hX eX8_wouldSwap_24 (tgt := 51) rfl ⟨by omega, by omega⟩ (fun c24 => ?_) (fun c24 => ?_)
      · refine v_iconst hX eX8_wouldSwap_51 ?_
        exact v_zreturn hX hR eX8_wouldSwap_52 rfl (by omega) (fin0 (fun z => by have := (plF_iff.mp z.1.1).2; omega))
      · refine v_aload_n hX eX8_wouldSwap_27 rfl ?_
        refine v_getA hX eX8_wouldSwap_28 fi_X8_26 ⟨by decide, rfl⟩ rfl ?_
        refine v_iload_n hX eX8_wouldSwap_31 rfl ?_
        refine v_iald hX eX8_wouldSwap_32 (by first | exact ⟨by decide, rfl⟩ | exact AR_rk (by omega)) ⟨by omega, by omega⟩ ?_
        try simp only [Int.toNat_natCast, Int.toNat_zero, Int.reduceToNat]
        refine v_if_lt hX eX8_wouldSwap_33 (tgt := 51) rfl ⟨by omega, by omega⟩ (fun c33 => ?_) (fun c33 => ?_)
        · refine v_iconst hX eX8_wouldSwap_51 ?_
          exact v_zreturn hX hR eX8_wouldSwap_52 rfl (by omega) (fin0 (fun z => by have := (plF_iff.mp z.1.2.1).2; omega))
        · refine v_aload_n hX eX8_wouldSwap_36 rfl ?_
          refine v_getA hX eX8_wouldSwap_37 fi_X8_26 ⟨by decide, rfl⟩ rfl ?_
          refine v_iload_n hX eX8_wouldSwap_40 rfl ?_
          refine v_iald hX eX8_wouldSwap_41 (by first | exact ⟨by decide, rfl⟩ | exact AR_rk (by omega)) ⟨by omega, by omega⟩ ?_
          try simp only [Int.toNat_natCast, Int.toNat_zero, Int.reduceToNat]
          refine v_aload_n hX eX8_wouldSwap_42 rfl ?_
          refine v_getA hX eX8_wouldSwap_43 fi_X8_26 ⟨by decide, rfl⟩ rfl ?_
          refine v_iload_n hX eX8_wouldSwap_46 rfl ?_
          refine v_iald hX eX8_wouldSwap_47 (by first | exact ⟨by decide, rfl⟩ | exact AR_rk (by omega)) ⟨by omega, by omega⟩ ?_
          try simp only [Int.toNat_natCast, Int.toNat_zero, Int.reduceToNat]
          refine v_icmp_ne hX eX8_wouldSwap_48 (tgt := 53) rfl ⟨by omega, by omega⟩ ⟨by omega, by omega⟩ (fun c48 => ?_) (fun c48 => ?_)
          · exact body (by omega) (by omega) (by omega) (by omega)
          · refine v_iconst hX eX8_wouldSwap_51 ?_
            exact v_zreturn hX hR eX8_wouldSwap_52 rfl (by omega) (fin0 (fun z => by have := z.1.2.2.1; have h2 := (plF_iff.mp z.1.1).2; unfold gnP at this; rw [rpa h2, show h 4 b = h 4 a by omega] at this; omega))
/-! the first two who would change places -/
theorem swOk_60 {h : Hp} {f : Nat → Int} (hI : RI h) {a b : Nat} (ha : a < 8) (hb : b < 8) : swOk (setR h 60 f) a b ↔ swOk h a b := by
  have x1 : setR h 60 f 1 = h 1 := setR_ne (by decide)
  have x4 : setR h 60 f 4 = h 4 := setR_ne (by decide)
  have xk : ∀ k, k ≠ 60 → setR h 60 f k = h k := fun k hk => setR_ne hk
  have e4 : ∀ p, swp (setR h 60 f) 4 a b 4 p = swp h 4 a b 4 p := fun p => by rw [swp4_at, swp4_at, x4]
  have fe : flt (swp (setR h 60 f) 4 a b) = flt (swp h 4 a b) := by
    have sI : RI (swp h 4 a b) := hI.congr (fun k hk => by unfold swp; rw [up_obf (by omega), up_obf (by omega)])
    have o : ∀ k, k ≠ 4 → k ≠ 60 → swp (setR h 60 f) 4 a b k = swp h 4 a b k := fun k k4 k60 => by
      unfold swp
      rw [up_obf k4, up_obf k4, up_obf k4, up_obf k4, setR_ne k60]
    have s1 : swp h 4 a b 1 = h 1 := by unfold swp; rw [up_obf (by decide), up_obf (by decide)]
    have hn := hI.n
    refine flt_congr sI (o 1 (by decide) (by decide)) (funext e4) (fun p hp => ?_) (fun q hq0 => o _ (by omega) (by omega))
    rw [s1] at hp
    rw [o (23 + p) (by omega) (by omega)]
    exact ⟨rfl, rfl, rfl⟩
  unfold swOk bgP plF prF gnP rkP rkI
  rw [fe, x1, x4, xk (23 + a) (by omega), xk (23 + b) (by omega), xk (31 + a) (by omega), xk (31 + b) (by omega)]
def mSw (g : Hp) (r : Option MV) (x : Hp) : Prop := ∃ f, (∃ a b, a < b ∧ b < (g 1 3).toNat ∧ swOk g a b ∧ (∀ a' b', a' < b' → b' < (g 1 3).toNat → a' < a ∨ (a' = a ∧ b' < b) → ¬ swOk g a' b') ∧ r = some (mI 1) ∧ x = up (up (up (setR g 60 f) 44 36 2) 67 0 a) 67 1 b) ∨ ((∀ a' b', a' < b' → b' < (g 1 3).toNat → ¬ swOk g a' b') ∧ r = some (mI 0) ∧ x = setR g 60 f)
set_option maxHeartbeats 2000000 in
set_option maxRecDepth 20000 in
theorem c_X8_swap {d : Nat} {h g : Hp} (hg : up h 44 0 0 = g) (hI : RI g) (r : RLr g) (hl : LDI g) (hApS : ∀ a, a < (g 1 3).toNat → apB g a a = false) (w : WL g) (ht : PQ g) : Fr (d + 4) MX8_swap [mA 44] h (mSw g) := by
  intro Q hq X hX hR
  have hn := hI.n
  have en := r.n
  have k44 : ∀ f, setR g 60 f 44 = g 44 := fun f => setR_ne (by decide)
  have loop : ∀ i : Nat, i ≤ (g 1 3).toNat → ∀ f l2, (∀ a' b', a' < b' → b' < (g 1 3).toNat → a' < i → ¬ swOk g a' b') → VW X 7 [some (mA 44), some (mI i), l2] [] (setR g 60 f) := by
    refine loop_up _ ?_ ?_
    · intro f l2 hno
      refine v_iload_n hX eX8_swap_7 rfl ?_
      refine v_aload_n hX eX8_swap_8 rfl ?_
      refine v_getI hX eX8_swap_9 fi_X8_84 ⟨by decide, rfl⟩ ?_
      rw [k44]
      refine v_icmp_ge hX eX8_swap_12 (tgt := 69) rfl ⟨by omega, by omega⟩ ⟨by omega, by omega⟩ (fun c12 => ?_) (fun c12 => False.elim ((by omega)))
      refine v_iconst hX eX8_swap_69 ?_
      exact v_ireturn hX hR eX8_swap_70 rfl (hq _ _ ⟨f, Or.inr ⟨fun a' b' h1 h2 => hno a' b' h1 h2 (by omega), rfl, rfl⟩⟩)
    · intro i hi ih f l2 hno
      have inner : ∀ (m j : Nat), j + m = (g 1 3).toNat → i < j → ∀ f, (∀ b', i < b' → b' < j → ¬ swOk g i b') → VW X 19 [some (mA 44), some (mI i), some (mI j)] [] (setR g 60 f) := by
        intro m
        induction m with
        | zero =>
          intro j hj hij f hno2
          refine v_iload_n hX eX8_swap_19 rfl ?_
          refine v_aload_n hX eX8_swap_20 rfl ?_
          refine v_getI hX eX8_swap_21 fi_X8_84 ⟨by decide, rfl⟩ ?_
          rw [k44]
          refine v_icmp_ge hX eX8_swap_24 (tgt := 63) rfl ⟨by omega, by omega⟩ ⟨by omega, by omega⟩ (fun c24 => ?_) (fun c24 => False.elim ((by omega)))
          refine v_iinc hX eX8_swap_63 rfl rfl rfl ?_
          refine v_goto hX eX8_swap_66 (tgt := 7) rfl ?_
          refine ih f _ (fun a' b' h1 h2 h3 => ?_)
          by_cases e : a' = i
          · subst e; exact hno2 b' h1 (by omega)
          · exact hno a' b' h1 h2 (by omega)
        | succ m ihm =>
          intro j hj hij f hno2
          have sr : SR g (setR g 60 f) := ⟨fun k hk => setR_ne (by omega), fun k hk => setR_ne (by omega), by rw [setR_ne (by decide)], by rw [setR_ne (by decide)]⟩
          have x1 : setR g 60 f 1 = g 1 := setR_ne (by decide)
          have xk : ∀ k, k ≠ 60 → setR g 60 f k = g k := fun k hk => setR_ne hk
          have xl : LDI (setR g 60 f) := fun q hq0 => by
            rw [x1] at hq0
            have hm := hI.q
            rw [xk _ (by omega), x1]
            exact hl q hq0
          have xA : ∀ i, i < (setR g 60 f 1 3).toNat → apB (setR g 60 f) i i = false := fun i hi => by
            rw [x1] at hi
            unfold apB
            rw [xk _ (by omega)]
            exact hApS i hi
          have xW : WL (setR g 60 f) := fun p hp => by
            rw [x1] at hp
            obtain ⟨w1, w2⟩ := w p hp
            refine ⟨w1.congr (by rw [x1]) (xk _ (by omega)) (by rw [xk _ (by omega)]) (by rw [xk _ (by decide)]) (fun _ _ => by rw [xk _ (by decide)]), ?_⟩
            rw [xk 49 (by decide), xk (23 + p) (by omega)]
            exact w2
          have xP : PQ (setR g 60 f) := fun p hp => by
            rw [x1] at hp ⊢
            rw [xk 50 (by decide), xk 4 (by decide)]
            exact ht p hp
          have sw := swOk_60 (f := f) hI (a := i) (b := j) (by omega) (by omega)
          refine v_iload_n hX eX8_swap_19 rfl ?_
          refine v_aload_n hX eX8_swap_20 rfl ?_
          refine v_getI hX eX8_swap_21 fi_X8_84 ⟨by decide, rfl⟩ ?_
          rw [k44]
          refine v_icmp_ge hX eX8_swap_24 (tgt := 63) rfl ⟨by omega, by omega⟩ ⟨by omega, by omega⟩ (fun z => False.elim (by omega)) (fun z24 => ?_)
          refine v_aload_n hX eX8_swap_27 rfl ?_
          refine v_iload_n hX eX8_swap_28 rfl ?_
          refine v_iload_n hX eX8_swap_29 rfl ?_
          refine v_frV hX eX8_swap_30 lV_X8_237 ok_MX8_wouldSwap ⟨by decide, rfl⟩ rfl ⟨rfl, Nat.le_of_ble_eq_true rfl⟩ (Nat.le_of_ble_eq_true rfl) (c_X8_wouldSwap (sr.ri hI) (sr.rl hI r) xl xA xW hij (by rw [x1]; omega) xP) rfl ?_
          rintro rr y ⟨rfl, f2, rfl⟩
          rw [setR_setR]
          show VW X 33 _ [mI (b01 (swOk (setR g 60 f) i j))] _
          refine v_ifB_eq hX eX8_swap_33 (tgt := 57) rfl (fun c33 => ?_) (fun c33 => ?_)
          · refine v_iinc hX eX8_swap_57 rfl rfl rfl ?_
            exact v_goto hX eX8_swap_60 (tgt := 19) rfl (ihm (j + 1) (by omega) (by omega) _ (fun b' h1 h2 => if e : b' = j then (by subst e; exact fun z => c33 (sw.mpr z)) else hno2 b' h1 (by omega)))
          · refine v_aload_n hX eX8_swap_36 rfl ?_
            refine v_iconst hX eX8_swap_37 ?_
            refine v_putI hX eX8_swap_38 fi_X8_128 ⟨by decide, rfl⟩ ?_
            refine v_aload_n hX eX8_swap_41 rfl ?_
            refine v_getA hX eX8_swap_42 fi_X8_77 ⟨by decide, rfl⟩ rfl ?_
            refine v_iconst hX eX8_swap_45 ?_
            refine v_iload_n hX eX8_swap_46 rfl ?_
            refine v_iast hX eX8_swap_47 (by first | exact ⟨by decide, rfl⟩ | exact AR_rk (by omega)) ⟨by omega, by omega⟩ ?_
            try simp only [Int.toNat_natCast, Int.toNat_zero, Int.reduceToNat]
            refine v_aload_n hX eX8_swap_48 rfl ?_
            refine v_getA hX eX8_swap_49 fi_X8_77 ⟨by decide, rfl⟩ rfl ?_
            refine v_iconst hX eX8_swap_52 ?_
            refine v_iload_n hX eX8_swap_53 rfl ?_
            refine v_iast hX eX8_swap_54 (by first | exact ⟨by decide, rfl⟩ | exact AR_rk (by omega)) ⟨by omega, by omega⟩ ?_
            try simp only [Int.toNat_natCast, Int.toNat_zero, Int.reduceToNat]
            refine v_iconst hX eX8_swap_55 ?_
            exact v_ireturn hX hR eX8_swap_56 rfl (hq _ _ ⟨f2, Or.inl ⟨i, j, hij, by omega, sw.mp c33, fun a' b' h1 h2 h3 => h3.elim (fun h3 => hno a' b' h1 h2 h3) (fun h3 => by obtain ⟨h3, h4⟩ := h3; subst h3; exact hno2 b' h1 h4), rfl, rfl⟩⟩)
      refine v_iload_n hX eX8_swap_7 rfl ?_
      refine v_aload_n hX eX8_swap_8 rfl ?_
      refine v_getI hX eX8_swap_9 fi_X8_84 ⟨by decide, rfl⟩ ?_
      rw [k44]
      refine v_icmp_ge hX eX8_swap_12 (tgt := 69) rfl ⟨by omega, by omega⟩ ⟨by omega, by omega⟩ (fun c12 => False.elim ((by omega))) (fun c12 => ?_)
      refine v_iload_n hX eX8_swap_15 rfl ?_
      refine v_iconst hX eX8_swap_16 ?_
      refine v_iadd hX eX8_swap_17 ?_
      refine v_istore_n hX eX8_swap_18 rfl rfl ?_
      exact inner ((g 1 3).toNat - (i + 1)) (i + 1) (by omega) (by omega) f (fun b' h1 h2 => by omega)
  have l0 := loop 0 (by omega) (g 60) none (fun a' b' h1 h2 h3 => absurd h3 (Nat.not_lt_zero _))
  rw [setR_self] at l0
  show VW X 0 [some (mA 44), none, none] [] h
  refine v_aload_n hX eX8_swap_0 rfl ?_
  refine v_iconst hX eX8_swap_1 ?_
  refine v_putI hX eX8_swap_2 fi_X8_80 ⟨by decide, rfl⟩ ?_
  rw [hg]
  refine v_iconst hX eX8_swap_5 ?_
  refine v_istore_n hX eX8_swap_6 rfl rfl ?_
  exact l0
