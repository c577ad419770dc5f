/-! the model's search: a leaf -/
def LFO (h : Hp) (t : Nat → Int) : Prop := ∀ q : Nat, q < (h 1 4).toNat → gT t (h 1 3).toNat q = 0 ∨ (tks h q (bcnt (gT t (h 1 3).toNat q)) ∧ ¬ lkl h q (gT t (h 1 3).toNat q) ∧ ¬ lks h q (gT t (h 1 3).toNat q))
noncomputable def mvs (P : SP) (h : Hp) (t : Nat → Int) : Int := if h 44 28 = 3 then (cntF (mvM P (h 50) t) P.n : Nat) else 0
def FNx (P : SP) (h : Hp) (t : Nat → Int) (x : Hp) : Prop :=
  (∀ a j, ¬ (a = 44 ∧ (18 ≤ j ∧ j ≤ 27)) → a ≠ 61 → x a j = h a j) ∧ (∀ j, 8 ≤ j → x 61 j = h 61 j) ∧
  ((¬ LFO h t ∧ x = h) ∨
  (LFO h t ∧ h 44 28 = 0 ∧ x = up h 44 23 (h 44 23 + 1)) ∨
  (LFO h t ∧ h 44 28 = 1 ∧ x 44 23 = h 44 23 + b01 (btr P t (h 61) (h 44 24) (h 44 25) (h 44 26)) ∧ x 61 = h 61 ∧ ∀ j, 24 ≤ j → x 44 j = h 44 j) ∨
  (LFO h t ∧ 2 ≤ h 44 28 ∧ (h 44 23 = 0 ∨ mvs P h t < h 44 27 ∨ (mvs P h t = h 44 27 ∧ btr P t (h 61) (h 44 24) (h 44 25) (h 44 26))) ∧ x 44 23 = 1 ∧ x 44 24 = mW P t ∧ x 44 25 = mG P t ∧ x 44 26 = mP P t ∧ x 44 27 = mvs P h t ∧ ∀ j, j < 8 → x 61 j = h 60 j) ∨
  (LFO h t ∧ 2 ≤ h 44 28 ∧ ¬ (h 44 23 = 0 ∨ mvs P h t < h 44 27 ∨ (mvs P h t = h 44 27 ∧ btr P t (h 61) (h 44 24) (h 44 25) (h 44 26))) ∧ x 61 = h 61 ∧ ∀ j, 21 ≤ j → x 44 j = h 44 j))
theorem gT_sz {t : Nat → Int} {n : Nat} {q : Int} (hn : n ≤ 8) : cntF (fun p => decide (t p = q)) n = bcnt (gT t n q) ∧ (gT t n q = 0 ↔ cntF (fun p => decide (t p = q)) n = 0) := by
  refine ⟨(bcnt_bs _ hn).symm, ?_⟩
  rw [gT, bs_0, cntF_pos]
set_option maxHeartbeats 2000000 in
set_option maxRecDepth 20000 in
theorem c_X8_finds {d : Nat} {h : Hp} {P : SP} {t : Nat → Int} (hI : RI h) (r : RLr h) (hl : LDI h) (v : PV P h) (ht : TV 60 t P.n h) (hu : h 44 28 = 1 ∨ (2 ≤ h 44 28 ∧ h 44 23 ≠ 0) → TV 61 (h 61) P.n h ∧ rng (h 44 24) ∧ rng (h 44 25) ∧ rng (h 44 26)) (hpl : TV 50 (h 50) P.n h) (ha : 0 ≤ h 44 28 ∧ h 44 28 ≤ 3) (h23 : rng (h 44 23)) (h27 : rng (h 44 27)) : Fr (d + 4) MX8_finds [mA 44] h (fun r x => r = none ∧ FNx P h t x) := by
  intro Q hq X hX hR
  have hn := hI.n
  have hm := hI.q
  have en := r.n
  have eq := r.q
  have v1 := v.1
  have pn : P.n = (h 1 3).toNat := by omega
  have htr : ∀ p, p < (h 1 3).toNat → h 60 p = t p ∧ rng (t p) := fun p hp => by have := ht p (by omega); exact ⟨this.1, by omega, by omega⟩
  have cm : (cntF (mvM P (h 50) t) P.n) ≤ 8 := Nat.le_trans (cntF_le _ _) v.2.1
  have goodEnd : LFO h t → ∀ l2, VW X 65 [some (mA 44), some (mI (h 1 4)), l2] [] h := by
    intro hok l2
    have tail : ∀ m, m = mvs P h t → VW X 85 [some (mA 44), some (mI (h 1 4)), l2] [mI m] h := by
      intro m hm0
      have hmr : 0 ≤ m ∧ m ≤ 8 := by rw [hm0, mvs]; split <;> omega
      by_cases a0 : h 44 28 = 0
      · have f0 := hq none (up h 44 23 (h 44 23 + 1)) ⟨rfl, fun a j h1 h2 => up_ne (by omega), fun j _ => up_ob (by decide), Or.inr (Or.inl ⟨hok, a0, rfl⟩)⟩
        refine v_istore_n hX eX8_finds_85 rfl rfl ?_
        refine v_aload_n hX eX8_finds_86 rfl ?_
        refine v_getI hX eX8_finds_87 fi_X8_194 ⟨by decide, rfl⟩ ?_
        refine v_if_ne hX eX8_finds_90 (tgt := 106) rfl ⟨by omega, by omega⟩ (fun c90 => False.elim ((c90 a0))) (fun c90 => ?_)
        refine v_aload_n hX eX8_finds_93 rfl ?_
        refine v_dup hX eX8_finds_94 rfl ?_
        refine v_getI hX eX8_finds_95 fi_X8_200 ⟨by decide, rfl⟩ ?_
        refine v_iconst hX eX8_finds_98 ?_
        refine v_iadd hX eX8_finds_99 ?_
        refine v_putI hX eX8_finds_100 fi_X8_200 ⟨by decide, rfl⟩ ?_
        refine v_goto hX eX8_finds_103 (tgt := 194) rfl ?_
        exact v_return hX hR eX8_finds_194 rfl (f0)
      · by_cases a1 : h 44 28 = 1
        · have f1 : ∀ x, WGx P h t (mW P t) (mG P t) (mP P t) x → ∀ b, b = b01 (btr P t (h 61) (h 44 24) (h 44 25) (h 44 26)) → Q none (up x 44 23 (h 44 23 + b)) := fun x w b hb => hq _ _ ⟨rfl, fun a j h1 h2 => by rw [up_ne (by omega)]; exact w.1 a j (by omega), fun j _ => by rw [up_ob (by decide)]; exact w.1 61 j (by omega), Or.inr (Or.inr (Or.inl ⟨hok, a1, by rw [up_same, hb], by rw [up_obf (by decide)]; exact funext fun j => w.1 61 j (by omega), fun j hj => by rw [up_ne (by omega)]; exact w.1 44 j (by omega)⟩))⟩
          refine v_istore_n hX eX8_finds_85 rfl rfl ?_
          refine v_aload_n hX eX8_finds_86 rfl ?_
          refine v_getI hX eX8_finds_87 fi_X8_194 ⟨by decide, rfl⟩ ?_
          refine v_if_ne hX eX8_finds_90 (tgt := 106) rfl ⟨by omega, by omega⟩ (fun c90 => ?_) (fun c90 => False.elim ((a0 c90)))
          refine v_aload_n hX eX8_finds_106 rfl ?_
          refine v_getI hX eX8_finds_107 fi_X8_194 ⟨by decide, rfl⟩ ?_
          refine v_iconst hX eX8_finds_110 ?_
          refine v_icmp_ne hX eX8_finds_111 (tgt := 142) rfl ⟨by omega, by omega⟩ ⟨by omega, by omega⟩ (fun c111 => False.elim ((c111 a1))) (fun c111 => ?_)
          refine v_aload_n hX eX8_finds_114 rfl ?_
          refine v_dup hX eX8_finds_115 rfl ?_
          refine v_getI hX eX8_finds_116 fi_X8_200 ⟨by decide, rfl⟩ ?_
          refine v_aload_n hX eX8_finds_119 rfl ?_
          refine v_aload_n hX eX8_finds_120 rfl ?_
          refine v_getA hX eX8_finds_121 fi_X8_56 ⟨by decide, rfl⟩ rfl ?_
          refine v_frV hX eX8_finds_124 lV_X8_203 ok_MX8_isBetter ⟨by decide, rfl⟩ rfl ⟨rfl, Nat.le_of_ble_eq_true rfl⟩ (Nat.le_of_ble_eq_true rfl) (c_X8_isBetter v ⟨by decide, rfl⟩ (by decide) ht (hu (Or.inl a1)).1 (hu (Or.inl a1)).2.1 (hu (Or.inl a1)).2.2.1 (hu (Or.inl a1)).2.2.2) rfl ?_
          rintro rr x ⟨rfl, w⟩
          show VW X 127 _ [mI (b01 _), mI (h 44 23), mA 44] x
          refine v_ifB_eq hX eX8_finds_127 (tgt := 134) rfl (fun c127 => ?_) (fun c127 => ?_)
          · refine v_iconst hX eX8_finds_134 ?_
            refine v_iadd hX eX8_finds_135 ?_
            refine v_putI hX eX8_finds_136 fi_X8_200 ⟨by decide, rfl⟩ ?_
            refine v_goto hX eX8_finds_139 (tgt := 194) rfl ?_
            exact v_return hX hR eX8_finds_194 rfl (f1 x w 0 (b01_f c127).symm)
          · refine v_iconst hX eX8_finds_130 ?_
            refine v_goto hX eX8_finds_131 (tgt := 135) rfl ?_
            refine v_iadd hX eX8_finds_135 ?_
            refine v_putI hX eX8_finds_136 fi_X8_200 ⟨by decide, rfl⟩ ?_
            refine v_goto hX eX8_finds_139 (tgt := 194) rfl ?_
            exact v_return hX hR eX8_finds_194 rfl (f1 x w 1 (b01_t c127).symm)
        · have kp : (h 44 23 = 0 ∨ mvs P h t < h 44 27 ∨ (mvs P h t = h 44 27 ∧ btr P t (h 61) (h 44 24) (h 44 25) (h 44 26))) → ∀ y, (∀ a j, ¬ (a = 44 ∧ (j = 18 ∨ j = 19 ∨ j = 20)) → y a j = h a j) → VW X 176 [some (mA 44), some (mI m), l2] [] y := by
            intro hb y hy
            have yv : PV P y := v.congr (hy 44 1 (by omega)) (fun k hk => funext fun j => hy k j (by omega))
            have yt : TV 60 t P.n y := fun p hp => by rw [hy 60 p (by omega)]; exact ht p hp
            refine v_aload_n hX eX8_finds_176 rfl ?_
            refine v_aload_n hX eX8_finds_177 rfl ?_
            refine v_getA hX eX8_finds_178 fi_X8_56 ⟨by decide, rfl⟩ rfl ?_
            refine v_frV hX eX8_finds_181 lV_X8_210 ok_MX8_keeps ⟨by decide, rfl⟩ rfl ⟨rfl, Nat.le_of_ble_eq_true rfl⟩ (Nat.le_of_ble_eq_true rfl) (c_X8_keeps yv ⟨by decide, rfl⟩ (by decide) yt) rfl ?_
            rintro rr x ⟨rfl, k1, k2, k3, k4, k5, k6⟩
            show VW X 184 _ [] x
            refine v_aload_n hX eX8_finds_184 rfl ?_
            refine v_iload_n hX eX8_finds_185 rfl ?_
            refine v_putI hX eX8_finds_186 fi_X8_207 ⟨by decide, rfl⟩ ?_
            refine v_aload_n hX eX8_finds_189 rfl ?_
            refine v_iconst hX eX8_finds_190 ?_
            refine v_putI hX eX8_finds_191 fi_X8_200 ⟨by decide, rfl⟩ ?_
            exact v_return hX hR eX8_finds_194 rfl (hq _ _ ⟨rfl, fun a j h1 h2 => by rw [up_ne (by omega), up_ne (by omega), k1 a j (by omega) h2]; exact hy a j (by omega), fun j hj => by rw [up_ob (by decide), up_ob (by decide), k6 j hj]; exact hy 61 j (by omega), Or.inr (Or.inr (Or.inr (Or.inl ⟨hok, by omega, hb, up_same, by rw [up_ne (by omega), up_ne (by omega)]; exact k2, by rw [up_ne (by omega), up_ne (by omega)]; exact k3, by rw [up_ne (by omega), up_ne (by omega)]; exact k4, by rw [up_ne (by omega), up_same, hm0], fun j hj => by rw [up_ob (by decide), up_ob (by decide), k5 j hj]; exact hy 60 j (by omega)⟩)))⟩)
          have nk : ¬ (h 44 23 = 0 ∨ mvs P h t < h 44 27 ∨ (mvs P h t = h 44 27 ∧ btr P t (h 61) (h 44 24) (h 44 25) (h 44 26))) → ∀ y, (∀ a j, ¬ (a = 44 ∧ (j = 18 ∨ j = 19 ∨ j = 20)) → y a j = h a j) → Q none y := fun hb y hy => hq _ _ ⟨rfl, fun a j h1 h2 => hy a j (by omega), fun j _ => hy 61 j (by omega), Or.inr (Or.inr (Or.inr (Or.inr ⟨hok, by omega, hb, funext fun j => hy 61 j (by omega), fun j hj => hy 44 j (by omega)⟩)))⟩
          refine v_istore_n hX eX8_finds_85 rfl rfl ?_
          refine v_aload_n hX eX8_finds_86 rfl ?_
          refine v_getI hX eX8_finds_87 fi_X8_194 ⟨by decide, rfl⟩ ?_
          refine v_if_ne hX eX8_finds_90 (tgt := 106) rfl ⟨by omega, by omega⟩ (fun c90 => ?_) (fun c90 => False.elim ((a0 c90)))
          refine v_aload_n hX eX8_finds_106 rfl ?_
          refine v_getI hX eX8_finds_107 fi_X8_194 ⟨by decide, rfl⟩ ?_
          refine v_iconst hX eX8_finds_110 ?_
          refine v_icmp_ne hX eX8_finds_111 (tgt := 142) rfl ⟨by omega, by omega⟩ ⟨by omega, by omega⟩ (fun c111 => ?_) (fun c111 => False.elim ((a1 c111)))
          refine v_aload_n hX eX8_finds_142 rfl ?_
          refine v_getI hX eX8_finds_143 fi_X8_200 ⟨by decide, rfl⟩ ?_
          refine v_if_eq hX eX8_finds_146 (tgt := 176) rfl ⟨by omega, by omega⟩ (fun c146 => ?_) (fun c146 => ?_)
          · exact kp (Or.inl c146) h (fun _ _ _ => rfl)
          · refine v_iload_n hX eX8_finds_149 rfl ?_
            refine v_aload_n hX eX8_finds_150 rfl ?_
            refine v_getI hX eX8_finds_151 fi_X8_207 ⟨by decide, rfl⟩ ?_
            refine v_icmp_lt hX eX8_finds_154 (tgt := 176) rfl ⟨by omega, by omega⟩ ⟨by omega, by omega⟩ (fun c154 => ?_) (fun c154 => ?_)
            · exact kp (Or.inr (Or.inl (by omega))) h (fun _ _ _ => rfl)
            · refine v_iload_n hX eX8_finds_157 rfl ?_
              refine v_aload_n hX eX8_finds_158 rfl ?_
              refine v_getI hX eX8_finds_159 fi_X8_207 ⟨by decide, rfl⟩ ?_
              refine v_icmp_ne hX eX8_finds_162 (tgt := 194) rfl ⟨by omega, by omega⟩ ⟨by omega, by omega⟩ (fun c162 => ?_) (fun c162 => ?_)
              · exact v_return hX hR eX8_finds_194 rfl (nk (fun z => by rcases z with z | z | z; exact c146 z; omega; (have := z.1; omega)) h (fun _ _ _ => rfl))
              · refine v_aload_n hX eX8_finds_165 rfl ?_
                refine v_aload_n hX eX8_finds_166 rfl ?_
                refine v_getA hX eX8_finds_167 fi_X8_56 ⟨by decide, rfl⟩ rfl ?_
                refine v_frV hX eX8_finds_170 lV_X8_203 ok_MX8_isBetter ⟨by decide, rfl⟩ rfl ⟨rfl, Nat.le_of_ble_eq_true rfl⟩ (Nat.le_of_ble_eq_true rfl) (c_X8_isBetter v ⟨by decide, rfl⟩ (by decide) ht (hu (Or.inr ⟨by omega, c146⟩)).1 (hu (Or.inr ⟨by omega, c146⟩)).2.1 (hu (Or.inr ⟨by omega, c146⟩)).2.2.1 (hu (Or.inr ⟨by omega, c146⟩)).2.2.2) rfl ?_
                rintro rr x ⟨rfl, w⟩
                show VW X 173 _ [mI (b01 _)] x
                refine v_ifB_eq hX eX8_finds_173 (tgt := 194) rfl (fun c173 => ?_) (fun c173 => ?_)
                · exact v_return hX hR eX8_finds_194 rfl (nk (fun z => by rcases z with z | z | z; exact c146 z; omega; exact c173 z.2) x w.1)
                · exact kp (Or.inr (Or.inr ⟨by omega, c173⟩)) x w.1
    by_cases a3 : h 44 28 = 3
    · refine v_aload_n hX eX8_finds_65 rfl ?_
      refine v_getI hX eX8_finds_66 fi_X8_194 ⟨by decide, rfl⟩ ?_
      refine v_iconst hX eX8_finds_69 ?_
      refine v_icmp_ne hX eX8_finds_70 (tgt := 84) rfl ⟨by omega, by omega⟩ ⟨by omega, by omega⟩ (fun c70 => False.elim ((c70 a3))) (fun c70 => ?_)
      refine v_aload_n hX eX8_finds_73 rfl ?_
      refine v_aload_n hX eX8_finds_74 rfl ?_
      refine v_getA hX eX8_finds_75 fi_X8_56 ⟨by decide, rfl⟩ rfl ?_
      refine v_fnV hX eX8_finds_78 lV_X8_197 ok_MX8_movesOf ⟨by decide, rfl⟩ rfl ⟨rfl, Nat.le_of_ble_eq_true rfl⟩ (Nat.le_of_ble_eq_true rfl) (c_X8_movesOf v ⟨by decide, rfl⟩ ht hpl) rfl ?_
      try simp only [Int.toNat_natCast, Int.toNat_zero, Int.reduceToNat]
      refine v_goto hX eX8_finds_81 (tgt := 85) rfl ?_
      exact tail _ (by rw [mvs, if_pos a3])
    · refine v_aload_n hX eX8_finds_65 rfl ?_
      refine v_getI hX eX8_finds_66 fi_X8_194 ⟨by decide, rfl⟩ ?_
      refine v_iconst hX eX8_finds_69 ?_
      refine v_icmp_ne hX eX8_finds_70 (tgt := 84) rfl ⟨by omega, by omega⟩ ⟨by omega, by omega⟩ (fun c70 => ?_) (fun c70 => False.elim ((a3 c70)))
      refine v_iconst hX eX8_finds_84 ?_
      exact tail _ (by rw [mvs, if_neg a3])
  have bad : ¬ LFO h t → ∀ l1 l2, VW X 58 [some (mA 44), some (mI l1), some (mI l2)] [] h := by
    intro hb l1 l2
    have f0 := hq none h ⟨rfl, fun _ _ _ _ => rfl, fun _ _ => rfl, Or.inl ⟨hb, rfl⟩⟩
    exact v_return hX hR eX8_finds_58 rfl (f0)
  have loop : ∀ i : Nat, i ≤ (h 1 4).toNat → ∀ l2, (∀ q, q < i → gT t (h 1 3).toNat q = 0 ∨ (tks h q (bcnt (gT t (h 1 3).toNat q)) ∧ ¬ lkl h q (gT t (h 1 3).toNat q) ∧ ¬ lks h q (gT t (h 1 3).toNat q))) → VW X 2 [some (mA 44), some (mI i), l2] [] h := by
    refine loop_up _ ?_ ?_
    · intro l2 hall
      have g0 := goodEnd hall l2
      rw [show h 1 4 = (((h 1 4).toNat : Nat) : Int) by omega] at g0
      refine v_iload_n hX eX8_finds_2 rfl ?_
      refine v_aload_n hX eX8_finds_3 rfl ?_
      refine v_getI hX eX8_finds_4 fi_X8_91 ⟨by decide, rfl⟩ ?_
      refine v_icmp_ge hX eX8_finds_7 (tgt := 65) rfl ⟨by omega, by omega⟩ ⟨by omega, by omega⟩ (fun c7 => ?_) (fun c7 => False.elim ((by omega)))
      exact g0
    · intro i hi ih l2 hall
      have cle := cntF_le (fun p => decide (t p = i)) (h 1 3).toNat
      obtain ⟨z1, z2⟩ := gT_sz (t := t) (n := (h 1 3).toNat) (q := (i : Int)) (by omega)
      have bad2 : ¬ (gT t (h 1 3).toNat i = 0 ∨ (tks h i (bcnt (gT t (h 1 3).toNat i)) ∧ ¬ lkl h i (gT t (h 1 3).toNat i) ∧ ¬ lks h i (gT t (h 1 3).toNat i))) → ¬ LFO h t := fun z y => z (y i hi)
      have next : (gT t (h 1 3).toNat i = 0 ∨ (tks h i (bcnt (gT t (h 1 3).toNat i)) ∧ ¬ lkl h i (gT t (h 1 3).toNat i) ∧ ¬ lks h i (gT t (h 1 3).toNat i))) → ∀ l2, VW X 59 [some (mA 44), some (mI i), l2] [] h := by
        intro hg l2
        refine v_iinc hX eX8_finds_59 rfl rfl rfl ?_
        exact v_goto hX eX8_finds_62 (tgt := 2) rfl (ih l2 (fun q hq0 => if e : q = i then (by subst e; exact hg) else hall q (by omega)))
      refine v_iload_n hX eX8_finds_2 rfl ?_
      refine v_aload_n hX eX8_finds_3 rfl ?_
      refine v_getI hX eX8_finds_4 fi_X8_91 ⟨by decide, rfl⟩ ?_
      refine v_icmp_ge hX eX8_finds_7 (tgt := 65) rfl ⟨by omega, by omega⟩ ⟨by omega, by omega⟩ (fun c7 => False.elim ((by omega))) (fun c7 => ?_)
      refine v_aload_n hX eX8_finds_10 rfl ?_
      refine v_getA hX eX8_finds_11 fi_X8_56 ⟨by decide, rfl⟩ rfl ?_
      refine v_iload_n hX eX8_finds_14 rfl ?_
      refine v_aload_n hX eX8_finds_15 rfl ?_
      refine v_getI hX eX8_finds_16 fi_X8_84 ⟨by decide, rfl⟩ ?_
      rw [show h 44 1 = (((h 1 3).toNat : Nat) : Int) by omega]
      refine v_fnS hX eX8_finds_19 lS_X8_143 ok_MX8_sizeOf ⟨rfl, Nat.le_of_ble_eq_true rfl⟩ (Nat.le_of_ble_eq_true rfl) (c_X8_sizeOf (n := (h 1 3).toNat) (q := (i : Int)) ⟨by decide, rfl⟩ (by omega) htr ⟨by omega, by omega⟩) rfl ?_
      try simp only [Int.toNat_natCast, Int.toNat_zero, Int.reduceToNat]
      refine v_istore_n hX eX8_finds_22 rfl rfl ?_
      refine v_aload_n hX eX8_finds_23 rfl ?_
      refine v_iload_n hX eX8_finds_24 rfl ?_
      refine v_iload_n hX eX8_finds_25 rfl ?_
      refine v_fnV hX eX8_finds_26 lV_X8_147 ok_MX8_isSize ⟨by decide, rfl⟩ rfl ⟨rfl, Nat.le_of_ble_eq_true rfl⟩ (Nat.le_of_ble_eq_true rfl) (c_X8_isSize hI r (by omega) (by omega)) rfl ?_
      try simp only [Int.toNat_natCast, Int.toNat_zero, Int.reduceToNat]
      refine v_ifB_eq hX eX8_finds_29 (tgt := 58) rfl (fun c29 => ?_) (fun c29 => ?_)
      · refine bad (bad2 (fun z => c29 ?_)) _ _
        rcases z with z | z
        · exact Or.inl (by have := z2.mp z; omega)
        · exact Or.inr (by rw [z1]; exact z.1)
      · refine v_aload_n hX eX8_finds_32 rfl ?_
        refine v_aload_n hX eX8_finds_33 rfl ?_
        refine v_getA hX eX8_finds_34 fi_X8_56 ⟨by decide, rfl⟩ rfl ?_
        refine v_iload_n hX eX8_finds_37 rfl ?_
        refine v_iload_n hX eX8_finds_38 rfl ?_
        refine v_fnV hX eX8_finds_39 lV_X8_150 ok_MX8_isLed ⟨by decide, rfl⟩ rfl ⟨rfl, Nat.le_of_ble_eq_true rfl⟩ (Nat.le_of_ble_eq_true rfl) (c_X8_isLed hI r hl (by omega) ⟨by decide, rfl⟩ ⟨by omega, by omega⟩ htr) rfl ?_
        try simp only [Int.toNat_natCast, Int.toNat_zero, Int.reduceToNat]
        refine v_ifB_eq hX eX8_finds_42 (tgt := 58) rfl (fun c42 => ?_) (fun c42 => ?_)
        · refine bad (bad2 (fun z => c42 ?_)) _ _
          rcases z with z | z
          · exact Or.inl (by have := z2.mp z; omega)
          · exact Or.inr z.2.1
        · refine v_aload_n hX eX8_finds_45 rfl ?_
          refine v_aload_n hX eX8_finds_46 rfl ?_
          refine v_getA hX eX8_finds_47 fi_X8_56 ⟨by decide, rfl⟩ rfl ?_
          refine v_iload_n hX eX8_finds_50 rfl ?_
          refine v_iload_n hX eX8_finds_51 rfl ?_
          refine v_fnV hX eX8_finds_52 lV_X8_154 ok_MX8_hasSkills ⟨by decide, rfl⟩ rfl ⟨rfl, Nat.le_of_ble_eq_true rfl⟩ (Nat.le_of_ble_eq_true rfl) (c_X8_hasSkills hI r (by omega) ⟨by decide, rfl⟩ z1 (c29.elim (fun z => Or.inl (by omega)) Or.inr) htr) rfl ?_
          try simp only [Int.toNat_natCast, Int.toNat_zero, Int.reduceToNat]
          refine v_ifB_ne hX eX8_finds_55 (tgt := 59) rfl (fun c55 => ?_) (fun c55 => ?_)
          · refine next ?_ _
            by_cases e0 : cntF (fun p => decide (t p = i)) (h 1 3).toNat = 0
            · exact Or.inl (z2.mpr e0)
            · exact Or.inr ⟨by rw [← z1]; exact c29.resolve_left (by omega), c42.resolve_left (by omega), c55.resolve_left e0⟩
          · refine bad (bad2 (fun z => c55 ?_)) _ _
            rcases z with z | z
            · exact Or.inl (z2.mp z)
            · exact Or.inr z.2.2
  show VW X 0 [some (mA 44), none, none] [] h
  refine v_iconst hX eX8_finds_0 ?_
  refine v_istore_n hX eX8_finds_1 rfl rfl ?_
  exact loop 0 (by omega) _ (fun q hq0 => absurd hq0 (Nat.not_lt_zero _))
