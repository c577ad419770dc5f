/-! worth in the model -/
theorem crF_s {h : Hp} {w : Int} {p : Nat} : crF h w p = true ↔ plF h p = true ∧ rkI h p (h 4 p) = w := by simp [crF]
theorem fpF_iff {h : Hp} {a b : Nat} : fpF h a b = true ↔ a < b ∧ plF h a = true ∧ plF h b = true ∧ h 4 a = h 4 b ∧ frB h a b = true := by simp [fpF]
theorem cntF_no0 {f : Nat → Bool} {n : Nat} (h : ∀ i, i < n → ¬ f i = true) : cntF f n = 0 := (cntF_pos f n).mpr (fun i hi => by cases z : f i; rfl; exact absurd z (h i hi))
theorem cntF_t {f : Nat → Bool} {n : Nat} (h : f n = true) : cntF f (n + 1) = cntF f n + 1 := by rw [cntF, if_pos h]
theorem cntF_f {f : Nat → Bool} {n : Nat} (h : ¬ f n = true) : cntF f (n + 1) = cntF f n := by rw [cntF, if_neg h, Nat.add_zero]
set_option maxHeartbeats 2000000 in
set_option maxRecDepth 20000 in
theorem c_X8_worth {d : Nat} {h g : Hp} {w : Int} (hg : up h 44 0 0 = g) (hI : RI g) (r : RLr g) (hw : WL g) (hL : PLI g) (ht : PQ g) (hr : rng w) : Fn (d + 1) MX8_worth [mA 44, mI w] h (some (mI (wrtW g w))) g := by
  intro Q hq X hX hR
  have hn := hI.n
  have hm := hI.q
  have en := r.n
  by_cases h19 : 1 ≤ w ∧ w ≤ 9
  · have ul := useN_lt hL (g 1 3).toNat (by omega)
    have fin : ∀ (l6 l7 l8 : Option MV), VW X 202 [some (mA 44), some (mI w), some (mI (cntF (crF g w) (g 1 3).toNat : Nat)), some (mI (sumN (grF g) (g 1 3).toNat)), some (mI (useN g (g 1 3).toNat : Nat)), some (mI (sumN (fun a => (cntF (fpF g a) (g 1 3).toNat : Nat)) (g 1 3).toNat)), l6, l7, l8] [] g := by
      intro l6 l7 l8
      unfold wrtW at hq
      by_cases h7 : w < 7
      · rw [if_pos (by omega)] at hq
        refine v_iload_n hX eX8_worth_202 rfl ?_
        refine v_bipush hX eX8_worth_203 (by decide) ?_
        refine v_icmp_ge hX eX8_worth_205 (tgt := 212) rfl ⟨by omega, by omega⟩ ⟨by omega, by omega⟩ (fun c205 => False.elim ((by omega))) (fun c205 => ?_)
        refine v_iload_n hX eX8_worth_208 rfl ?_
        refine v_goto hX eX8_worth_209 (tgt := 238) rfl ?_
        exact v_ireturn hX hR eX8_worth_238 rfl (hq)
      · rw [if_neg (by omega)] at hq
        by_cases e7 : w = 7
        · rw [if_pos e7] at hq
          refine v_iload_n hX eX8_worth_202 rfl ?_
          refine v_bipush hX eX8_worth_203 (by decide) ?_
          refine v_icmp_ge hX eX8_worth_205 (tgt := 212) rfl ⟨by omega, by omega⟩ ⟨by omega, by omega⟩ (fun c205 => ?_) (fun c205 => False.elim ((by omega)))
          refine v_iload_n hX eX8_worth_212 rfl ?_
          refine v_bipush hX eX8_worth_213 (by decide) ?_
          refine v_icmp_ne hX eX8_worth_215 (tgt := 222) rfl ⟨by omega, by omega⟩ ⟨by omega, by omega⟩ (fun c215 => False.elim ((by omega))) (fun c215 => ?_)
          refine v_iload_n hX eX8_worth_218 rfl ?_
          refine v_goto hX eX8_worth_219 (tgt := 238) rfl ?_
          exact v_ireturn hX hR eX8_worth_238 rfl (hq)
        · rw [if_neg e7] at hq
          by_cases e8 : w = 8
          · rw [if_pos e8] at hq
            refine v_iload_n hX eX8_worth_202 rfl ?_
            refine v_bipush hX eX8_worth_203 (by decide) ?_
            refine v_icmp_ge hX eX8_worth_205 (tgt := 212) rfl ⟨by omega, by omega⟩ ⟨by omega, by omega⟩ (fun c205 => ?_) (fun c205 => False.elim ((by omega)))
            refine v_iload_n hX eX8_worth_212 rfl ?_
            refine v_bipush hX eX8_worth_213 (by decide) ?_
            refine v_icmp_ne hX eX8_worth_215 (tgt := 222) rfl ⟨by omega, by omega⟩ ⟨by omega, by omega⟩ (fun c215 => ?_) (fun c215 => False.elim ((by omega)))
            refine v_iload_n hX eX8_worth_222 rfl ?_
            refine v_bipush hX eX8_worth_223 (by decide) ?_
            refine v_icmp_ne hX eX8_worth_225 (tgt := 233) rfl ⟨by omega, by omega⟩ ⟨by omega, by omega⟩ (fun c225 => False.elim ((by omega))) (fun c225 => ?_)
            refine v_iload hX eX8_worth_228 rfl ?_
            refine v_goto hX eX8_worth_230 (tgt := 238) rfl ?_
            exact v_ireturn hX hR eX8_worth_238 rfl (hq)
          · rw [if_neg e8, if_pos (by omega)] at hq
            refine v_iload_n hX eX8_worth_202 rfl ?_
            refine v_bipush hX eX8_worth_203 (by decide) ?_
            refine v_icmp_ge hX eX8_worth_205 (tgt := 212) rfl ⟨by omega, by omega⟩ ⟨by omega, by omega⟩ (fun c205 => ?_) (fun c205 => False.elim ((by omega)))
            refine v_iload_n hX eX8_worth_212 rfl ?_
            refine v_bipush hX eX8_worth_213 (by decide) ?_
            refine v_icmp_ne hX eX8_worth_215 (tgt := 222) rfl ⟨by omega, by omega⟩ ⟨by omega, by omega⟩ (fun c215 => ?_) (fun c215 => False.elim ((by omega)))
            refine v_iload_n hX eX8_worth_222 rfl ?_
            refine v_bipush hX eX8_worth_223 (by decide) ?_
            refine v_icmp_ne hX eX8_worth_225 (tgt := 233) rfl ⟨by omega, by omega⟩ ⟨by omega, by omega⟩ (fun c225 => ?_) (fun c225 => False.elim ((by omega)))
            refine v_iload hX eX8_worth_233 rfl ?_
            refine v_fnS hX eX8_worth_235 lS_X8_232 ok_MJ6_bitCount_0f7a4 ⟨rfl, Nat.le_of_ble_eq_true rfl⟩ (Nat.le_of_ble_eq_true rfl) (c_bitCount ul) rfl ?_
            try simp only [Int.toNat_natCast, Int.toNat_zero, Int.reduceToNat]
            exact v_ireturn hX hR eX8_worth_238 rfl (hq)
    have loop : ∀ i : Nat, i ≤ (g 1 3).toNat → ∀ (l7 l8 : Option MV), VW X 32 [some (mA 44), some (mI w), some (mI (cntF (crF g w) i : Nat)), some (mI (sumN (grF g) i)), some (mI (useN g i : Nat)), some (mI (sumN (fun a => (cntF (fpF g a) (g 1 3).toNat : Nat)) i)), some (mI i), l7, l8] [] g := by
      refine loop_up _ ?_ ?_
      · intro l7 l8
        refine v_iload hX eX8_worth_32 rfl ?_
        refine v_aload_n hX eX8_worth_34 rfl ?_
        refine v_getI hX eX8_worth_35 fi_X8_84 ⟨by decide, rfl⟩ ?_
        refine v_icmp_ge hX eX8_worth_38 (tgt := 202) rfl ⟨by omega, by omega⟩ ⟨by omega, by omega⟩ (fun c38 => ?_) (fun c38 => False.elim ((by omega)))
        exact fin _ _ _
      · intro i hi ih l7 l8
        have uli := useN_lt hL i (by omega)
        obtain ⟨ti, ti1, ti2⟩ := ht i hi
        have e46 := (r.pu hi).2
        have e49 := (hw i hi).2
        have z46 := (hI.pu (p := i) (by omega)).2.2.2.2.2.1
        have rk := hw.rk hI hi
        have ri := rkI_rng hI (p := i) (by omega) (g 4 i)
        have skip : plF g i ≠ true → ∀ l7 l8, VW X 196 [some (mA 44), some (mI w), some (mI (cntF (crF g w) i : Nat)), some (mI (sumN (grF g) i)), some (mI (useN g i : Nat)), some (mI (sumN (fun a => (cntF (fpF g a) (g 1 3).toNat : Nat)) i)), some (mI i), l7, l8] [] g := by
          intro hp l7 l8
          have i1 := ih l7 l8
          rw [cntF_f (fun z => hp (crF_s.mp z).1), sumN, sumN, show grF g i = 0 from if_neg hp, Int.add_zero, useN, if_neg hp, cntF_no0 (f := fpF g i) (fun j _ z => hp (fpF_iff.mp z).2.1)] at i1
          simp only [Int.natCast_zero, Int.add_zero] at i1
          refine v_iinc hX eX8_worth_196 rfl rfl rfl ?_
          exact v_goto hX eX8_worth_199 (tgt := 32) rfl i1
        have placed : plF g i = true → ∀ l7 l8, VW X 64 [some (mA 44), some (mI w), some (mI (cntF (crF g w) i : Nat)), some (mI (sumN (grF g) i)), some (mI (useN g i : Nat)), some (mI (sumN (fun a => (cntF (fpF g a) (g 1 3).toNat : Nat)) i)), some (mI i), l7, l8] [] g := by
          intro hp l7 l8
          have hne := (plF_iff.mp hp).2
          have inner : ∀ j : Nat, j ≤ (g 1 3).toNat → i < j → VW X 128 [some (mA 44), some (mI w), some (mI (cntF (crF g w) (i + 1) : Nat)), some (mI (sumN (grF g) (i + 1))), some (mI (useN g (i + 1) : Nat)), some (mI (sumN (fun a => (cntF (fpF g a) (g 1 3).toNat : Nat)) i + (cntF (fpF g i) j : Nat))), some (mI i), some (mI (rkI g i (g 4 i))), some (mI j)] [] g := by
            refine loop_up _ ?_ ?_
            · intro _
              refine v_iload hX eX8_worth_128 rfl ?_
              refine v_aload_n hX eX8_worth_130 rfl ?_
              refine v_getI hX eX8_worth_131 fi_X8_84 ⟨by decide, rfl⟩ ?_
              refine v_icmp_ge hX eX8_worth_134 (tgt := 196) rfl ⟨by omega, by omega⟩ ⟨by omega, by omega⟩ (fun c134 => ?_) (fun c134 => False.elim ((by omega)))
              refine v_iinc hX eX8_worth_196 rfl rfl rfl ?_
              exact v_goto hX eX8_worth_199 (tgt := 32) rfl (ih _ _)
            · intro j hj ihj hij
              have ihj := ihj (by omega)
              obtain ⟨tj, tj1, tj2⟩ := ht j hj
              have f46 := (r.pu hj).2
              have y46 := (hI.pu (p := j) (by omega)).2.2.2.2.2.1
              obtain ⟨f1, f2, f3, f4, f5, f6⟩ := r.fr (a := i) (b := j) (by omega) (by omega)
              have ei : ((8 : Int) * i + j).toNat = 8 * i + j := by omega
              have no : ¬ fpF g i j = true → VW X 187 [some (mA 44), some (mI w), some (mI (cntF (crF g w) (i + 1) : Nat)), some (mI (sumN (grF g) (i + 1))), some (mI (useN g (i + 1) : Nat)), some (mI (sumN (fun a => (cntF (fpF g a) (g 1 3).toNat : Nat)) i + (cntF (fpF g i) j : Nat))), some (mI i), some (mI (rkI g i (g 4 i))), some (mI j)] [mI 0, mI (sumN (fun a => (cntF (fpF g a) (g 1 3).toNat : Nat)) i + (cntF (fpF g i) j : Nat))] g := by
                intro z
                rw [cntF_f z] at ihj
                refine v_iadd hX eX8_worth_187 ?_
                rw [Int.add_zero]
                refine v_istore hX eX8_worth_188 rfl rfl ?_
                refine v_iinc hX eX8_worth_190 rfl rfl rfl ?_
                refine v_goto hX eX8_worth_193 (tgt := 128) rfl ?_
                exact ihj
              have yes : fpF g i j = true → VW X 187 [some (mA 44), some (mI w), some (mI (cntF (crF g w) (i + 1) : Nat)), some (mI (sumN (grF g) (i + 1))), some (mI (useN g (i + 1) : Nat)), some (mI (sumN (fun a => (cntF (fpF g a) (g 1 3).toNat : Nat)) i + (cntF (fpF g i) j : Nat))), some (mI i), some (mI (rkI g i (g 4 i))), some (mI j)] [mI 1, mI (sumN (fun a => (cntF (fpF g a) (g 1 3).toNat : Nat)) i + (cntF (fpF g i) j : Nat))] g := by
                intro z
                rw [cntF_t z, Int.natCast_add, ← Int.add_assoc] at ihj
                refine v_iadd hX eX8_worth_187 ?_
                refine v_istore hX eX8_worth_188 rfl rfl ?_
                refine v_iinc hX eX8_worth_190 rfl rfl rfl ?_
                refine v_goto hX eX8_worth_193 (tgt := 128) rfl ?_
                exact ihj
              refine v_iload hX eX8_worth_128 rfl ?_
              refine v_aload_n hX eX8_worth_130 rfl ?_
              refine v_getI hX eX8_worth_131 fi_X8_84 ⟨by decide, rfl⟩ ?_
              refine v_icmp_ge hX eX8_worth_134 (tgt := 196) rfl ⟨by omega, by omega⟩ ⟨by omega, by omega⟩ (fun c134 => False.elim ((by omega))) (fun c134 => ?_)
              refine v_iload hX eX8_worth_137 rfl ?_
              refine v_aload_n hX eX8_worth_139 rfl ?_
              refine v_getA hX eX8_worth_140 fi_X8_29 ⟨by decide, rfl⟩ rfl ?_
              refine v_bipush hX eX8_worth_143 (by decide) ?_
              refine v_iload hX eX8_worth_145 rfl ?_
              refine v_imul hX eX8_worth_147 ?_
              refine v_iload hX eX8_worth_148 rfl ?_
              refine v_iadd hX eX8_worth_150 ?_
              refine v_zald hX eX8_worth_151 (by first | exact ⟨by decide, rfl⟩ | exact AR_rk (by omega)) ⟨by omega, by omega⟩ ?_
              try simp only [Int.toNat_natCast, Int.toNat_zero, Int.reduceToNat]
              rw [ei]
              refine v_if_eq hX eX8_worth_152 (tgt := 186) rfl ⟨by omega, by omega⟩ (fun c152 => ?_) (fun c152 => ?_)
              · refine v_iconst hX eX8_worth_186 ?_
                exact no (fun z => by have := f1.mp (fpF_iff.mp z).2.2.2.2; omega)
              · refine v_aload_n hX eX8_worth_155 rfl ?_
                refine v_getA hX eX8_worth_156 fi_X8_13 ⟨by decide, rfl⟩ rfl ?_
                refine v_iload hX eX8_worth_159 rfl ?_
                refine v_zald hX eX8_worth_161 (by first | exact ⟨by decide, rfl⟩ | exact AR_rk (by omega)) ⟨by omega, by omega⟩ ?_
                try simp only [Int.toNat_natCast, Int.toNat_zero, Int.reduceToNat]
                refine v_if_eq hX eX8_worth_162 (tgt := 186) rfl ⟨by omega, by omega⟩ (fun c162 => ?_) (fun c162 => ?_)
                · refine v_iconst hX eX8_worth_186 ?_
                  exact no (fun z => by have := (plF_iff.mp (fpF_iff.mp z).2.2.1).1; omega)
                · refine v_aload_n hX eX8_worth_165 rfl ?_
                  refine v_getA hX eX8_worth_166 fi_X8_26 ⟨by decide, rfl⟩ rfl ?_
                  refine v_iload hX eX8_worth_169 rfl ?_
                  refine v_iald hX eX8_worth_171 (by first | exact ⟨by decide, rfl⟩ | exact AR_rk (by omega)) ⟨by omega, by omega⟩ ?_
                  try simp only [Int.toNat_natCast, Int.toNat_zero, Int.reduceToNat]
                  refine v_aload_n hX eX8_worth_172 rfl ?_
                  refine v_getA hX eX8_worth_173 fi_X8_26 ⟨by decide, rfl⟩ rfl ?_
                  refine v_iload hX eX8_worth_176 rfl ?_
                  refine v_iald hX eX8_worth_178 (by first | exact ⟨by decide, rfl⟩ | exact AR_rk (by omega)) ⟨by omega, by omega⟩ ?_
                  try simp only [Int.toNat_natCast, Int.toNat_zero, Int.reduceToNat]
                  refine v_icmp_ne hX eX8_worth_179 (tgt := 186) rfl ⟨by omega, by omega⟩ ⟨by omega, by omega⟩ (fun c179 => ?_) (fun c179 => ?_)
                  · refine v_iconst hX eX8_worth_186 ?_
                    exact no (fun z => by have := (fpF_iff.mp z).2.2.2.1; omega)
                  · refine v_iconst hX eX8_worth_182 ?_
                    refine v_goto hX eX8_worth_183 (tgt := 187) rfl ?_
                    exact yes (fpF_iff.mpr ⟨hij, hp, plF_iff.mpr ⟨by omega, by omega⟩, by omega, f1.mpr (by omega)⟩)
          have i0 := inner (i + 1) (by omega) (by omega)
          rw [cntF_no0 (f := fpF g i) (n := i + 1) (fun j hj z => by have := (fpF_iff.mp z).1; omega)] at i0
          simp only [Int.natCast_zero, Int.add_zero] at i0
          have eu := wb_put (g := useN g i) (i := (g 4 i).toNat) uli (by omega)
          rw [← cast_toNat' (show 0 ≤ g 4 i by omega)] at eu
          have mid : ∀ v : Int, v = b01 (rkI g i (g 4 i) = w) → VW X 91 [some (mA 44), some (mI w), some (mI (cntF (crF g w) i : Nat)), some (mI (sumN (grF g) i)), some (mI (useN g i : Nat)), some (mI (sumN (fun a => (cntF (fpF g a) (g 1 3).toNat : Nat)) i)), some (mI i), some (mI (rkI g i (g 4 i))), l8] [mI v, mI (cntF (crF g w) i : Nat)] g := by
            intro v hv
            have e2 : ((cntF (crF g w) i : Nat) : Int) + v = (cntF (crF g w) (i + 1) : Nat) := by
              by_cases z : rkI g i (g 4 i) = w
              · rw [hv, b01_t z, cntF_t (crF_s.mpr ⟨hp, z⟩)]; rfl
              · rw [hv, b01_f z, cntF_f (fun y => z (crF_s.mp y).2), Int.add_zero]
            have e3 : sumN (grF g) i + rkI g i (g 4 i) * (g (23 + i) 3 + 1) = sumN (grF g) (i + 1) := by
              rw [sumN, show grF g i = rkI g i (g 4 i) * (g (23 + i) 3 + 1) from if_pos hp]
            have e4 : ((useN g i ||| 2 ^ (g 4 i).toNat : Nat) : Int) = (useN g (i + 1) : Nat) := by rw [useN, if_pos hp]
            refine v_iadd hX eX8_worth_91 ?_
            rw [e2]
            refine v_istore_n hX eX8_worth_92 rfl rfl ?_
            refine v_iload_n hX eX8_worth_93 rfl ?_
            refine v_iload hX eX8_worth_94 rfl ?_
            refine v_aload_n hX eX8_worth_96 rfl ?_
            refine v_getA hX eX8_worth_97 fi_X8_23 ⟨by decide, rfl⟩ rfl ?_
            refine v_iload hX eX8_worth_100 rfl ?_
            refine v_iald hX eX8_worth_102 (by first | exact ⟨by decide, rfl⟩ | exact AR_rk (by omega)) ⟨by omega, by omega⟩ ?_
            try simp only [Int.toNat_natCast, Int.toNat_zero, Int.reduceToNat]
            rw [e49]
            refine v_iconst hX eX8_worth_103 ?_
            refine v_iadd hX eX8_worth_104 ?_
            refine v_imul hX eX8_worth_105 ?_
            refine v_iadd hX eX8_worth_106 ?_
            rw [e3]
            refine v_istore_n hX eX8_worth_107 rfl rfl ?_
            refine v_iload hX eX8_worth_108 rfl ?_
            refine v_iconst hX eX8_worth_110 ?_
            refine v_aload_n hX eX8_worth_111 rfl ?_
            refine v_getA hX eX8_worth_112 fi_X8_26 ⟨by decide, rfl⟩ rfl ?_
            refine v_iload hX eX8_worth_115 rfl ?_
            refine v_iald hX eX8_worth_117 (by first | exact ⟨by decide, rfl⟩ | exact AR_rk (by omega)) ⟨by omega, by omega⟩ ?_
            try simp only [Int.toNat_natCast, Int.toNat_zero, Int.reduceToNat]
            rw [ti]
            refine v_ishl hX eX8_worth_118 ?_
            refine v_ior hX eX8_worth_119 ?_
            rw [eu, e4]
            refine v_istore hX eX8_worth_120 rfl rfl ?_
            refine v_iload hX eX8_worth_122 rfl ?_
            refine v_iconst hX eX8_worth_124 ?_
            refine v_iadd hX eX8_worth_125 ?_
            refine v_istore hX eX8_worth_126 rfl rfl ?_
            exact i0
          refine v_aload_n hX eX8_worth_64 rfl ?_
          refine v_iload hX eX8_worth_65 rfl ?_
          refine v_aload_n hX eX8_worth_67 rfl ?_
          refine v_getA hX eX8_worth_68 fi_X8_26 ⟨by decide, rfl⟩ rfl ?_
          refine v_iload hX eX8_worth_71 rfl ?_
          refine v_iald hX eX8_worth_73 (by first | exact ⟨by decide, rfl⟩ | exact AR_rk (by omega)) ⟨by omega, by omega⟩ ?_
          try simp only [Int.toNat_natCast, Int.toNat_zero, Int.reduceToNat]
          rw [ti]
          refine v_fnV hX eX8_worth_74 lV_X8_136 ok_MX8_rankOf ⟨by decide, rfl⟩ rfl ⟨rfl, Nat.le_of_ble_eq_true rfl⟩ (Nat.le_of_ble_eq_true rfl) (c_X8_rankOf (by omega) rk ⟨by omega, by omega⟩) rfl ?_
          try simp only [Int.toNat_natCast, Int.toNat_zero, Int.reduceToNat]
          refine v_istore hX eX8_worth_77 rfl rfl ?_
          refine v_iload_n hX eX8_worth_79 rfl ?_
          refine v_iload hX eX8_worth_80 rfl ?_
          refine v_iload_n hX eX8_worth_82 rfl ?_
          refine v_icmp_ne hX eX8_worth_83 (tgt := 90) rfl ⟨by omega, by omega⟩ ⟨by omega, by omega⟩ (fun c83 => ?_) (fun c83 => ?_)
          · refine v_iconst hX eX8_worth_90 ?_
            exact mid 0 (b01_f c83).symm
          · refine v_iconst hX eX8_worth_86 ?_
            refine v_goto hX eX8_worth_87 (tgt := 91) rfl ?_
            exact mid 1 (b01_t c83).symm
        refine v_iload hX eX8_worth_32 rfl ?_
        refine v_aload_n hX eX8_worth_34 rfl ?_
        refine v_getI hX eX8_worth_35 fi_X8_84 ⟨by decide, rfl⟩ ?_
        refine v_icmp_ge hX eX8_worth_38 (tgt := 202) rfl ⟨by omega, by omega⟩ ⟨by omega, by omega⟩ (fun c38 => False.elim ((by omega))) (fun c38 => ?_)
        refine v_aload_n hX eX8_worth_41 rfl ?_
        refine v_getA hX eX8_worth_42 fi_X8_13 ⟨by decide, rfl⟩ rfl ?_
        refine v_iload hX eX8_worth_45 rfl ?_
        refine v_zald hX eX8_worth_47 (by first | exact ⟨by decide, rfl⟩ | exact AR_rk (by omega)) ⟨by omega, by omega⟩ ?_
        try simp only [Int.toNat_natCast, Int.toNat_zero, Int.reduceToNat]
        refine v_if_eq hX eX8_worth_48 (tgt := 196) rfl ⟨by omega, by omega⟩ (fun c48 => ?_) (fun c48 => ?_)
        · exact skip (fun z => by have := (plF_iff.mp z).1; omega) _ _
        · refine v_aload_n hX eX8_worth_51 rfl ?_
          refine v_getA hX eX8_worth_52 fi_X8_26 ⟨by decide, rfl⟩ rfl ?_
          refine v_iload hX eX8_worth_55 rfl ?_
          refine v_iald hX eX8_worth_57 (by first | exact ⟨by decide, rfl⟩ | exact AR_rk (by omega)) ⟨by omega, by omega⟩ ?_
          try simp only [Int.toNat_natCast, Int.toNat_zero, Int.reduceToNat]
          refine v_if_ge hX eX8_worth_58 (tgt := 64) rfl ⟨by omega, by omega⟩ (fun c58 => ?_) (fun c58 => ?_)
          · exact placed (plF_iff.mpr ⟨by omega, by omega⟩) _ _
          · refine v_goto hX eX8_worth_61 (tgt := 196) rfl ?_
            exact skip (fun z => by have := (plF_iff.mp z).2; omega) _ _
    show VW X 0 [some (mA 44), some (mI w), none, none, none, none, none, none, none] [] h
    refine v_aload_n hX eX8_worth_0 rfl ?_
    refine v_iconst hX eX8_worth_1 ?_
    refine v_putI hX eX8_worth_2 fi_X8_80 ⟨by decide, rfl⟩ ?_
    rw [hg]
    refine v_iload_n hX eX8_worth_5 rfl ?_
    refine v_i2l hX eX8_worth_6 ⟨by omega, by omega⟩ ?_
    refine v_lconst (z := 1) hX eX8_worth_7 (by decide) ?_
    refine v_ldc2 (z := 9) hX eX8_worth_8 k_X8_230 (by decide) ?_
    refine v_fnS hX eX8_worth_11 lS_X8_87 ok_MX8_in ⟨rfl, Nat.le_of_ble_eq_true rfl⟩ (Nat.le_of_ble_eq_true rfl) (c_X8_in ⟨by omega, by omega⟩ ⟨by omega, by omega⟩ ⟨by omega, by omega⟩) rfl ?_
    try simp only [Int.toNat_natCast, Int.toNat_zero, Int.reduceToNat]
    refine v_ifB_ne hX eX8_worth_14 (tgt := 19) rfl (fun c14 => ?_) (fun c14 => False.elim ((c14 h19)))
    refine v_iconst hX eX8_worth_19 ?_
    refine v_istore_n hX eX8_worth_20 rfl rfl ?_
    refine v_iconst hX eX8_worth_21 ?_
    refine v_istore_n hX eX8_worth_22 rfl rfl ?_
    refine v_iconst hX eX8_worth_23 ?_
    refine v_istore hX eX8_worth_24 rfl rfl ?_
    refine v_iconst hX eX8_worth_26 ?_
    refine v_istore hX eX8_worth_27 rfl rfl ?_
    refine v_iconst hX eX8_worth_29 ?_
    refine v_istore hX eX8_worth_30 rfl rfl ?_
    exact loop 0 (by omega) _ _
  · show VW X 0 [some (mA 44), some (mI w), none, none, none, none, none, none, none] [] h
    refine v_aload_n hX eX8_worth_0 rfl ?_
    refine v_iconst hX eX8_worth_1 ?_
    refine v_putI hX eX8_worth_2 fi_X8_80 ⟨by decide, rfl⟩ ?_
    rw [hg]
    refine v_iload_n hX eX8_worth_5 rfl ?_
    refine v_i2l hX eX8_worth_6 ⟨by omega, by omega⟩ ?_
    refine v_lconst (z := 1) hX eX8_worth_7 (by decide) ?_
    refine v_ldc2 (z := 9) hX eX8_worth_8 k_X8_230 (by decide) ?_
    refine v_fnS hX eX8_worth_11 lS_X8_87 ok_MX8_in ⟨rfl, Nat.le_of_ble_eq_true rfl⟩ (Nat.le_of_ble_eq_true rfl) (c_X8_in ⟨by omega, by omega⟩ ⟨by omega, by omega⟩ ⟨by omega, by omega⟩) rfl ?_
    try simp only [Int.toNat_natCast, Int.toNat_zero, Int.reduceToNat]
    refine v_ifB_ne hX eX8_worth_14 (tgt := 19) rfl (fun c14 => False.elim ((h19 c14))) (fun c14 => ?_)
    refine v_iconst hX eX8_worth_17 ?_
    exact v_ireturn hX hR eX8_worth_18 rfl (by unfold wrtW at hq; rw [if_neg (by omega), if_neg (by omega), if_neg (by omega), if_neg (by omega)] at hq; exact hq)
