/-! the model's wrongOf is the class's faultOf -/
theorem firstI_eq {P R : Nat → Prop} : ∀ (k a : Nat), (∀ i, R i → P i) → (∀ i, a ≤ i → i < a + k → P i → ¬ R i → ∃ j, a ≤ j ∧ j < i ∧ P j) → firstI P k a = firstI R k a
  | 0, _, _, _ => rfl
  | k + 1, a, h1, h2 => by
    by_cases hp : P a
    · have hr : R a := Classical.byContradiction (fun z => by
        obtain ⟨j, j1, j2, _⟩ := h2 a (Nat.le_refl _) (by omega) hp z
        omega)
      rw [firstI_t hp, firstI_t hr]
    · have hr : ¬ R a := fun z => hp (h1 a z)
      rw [firstI_f hp, firstI_f hr]
      refine firstI_eq k (a + 1) h1 (fun i i1 i2 i3 i4 => ?_)
      obtain ⟨j, j1, j2, j3⟩ := h2 i (by omega) (by omega) i3 i4
      refine ⟨j, ?_, j2, j3⟩
      by_cases e : j = a
      · exact absurd (e ▸ j3) hp
      · omega
/-- c is h, but for THE PLAN -/
def CP (h c : Hp) : Prop := ∀ x, x ≠ 4 → c x = h x
theorem CP.ri {h c : Hp} (e : CP h c) (a : RI h) : RI c := a.congr (fun k hk => e k (by omega))
theorem CP.phas12 {h c : Hp} (e : CP h c) {f : Int} {p : Nat} : phas c f p ↔ (f = 1 ∧ h (23 + p) 6 = 1 ∧ c 4 p = -1) ∨ (f = 2 ∧ h (23 + p) 6 = 0 ∧ c 4 p ≠ -1) ∨ (f = 7 ∧ c 4 p ≠ -1 ∧ ∃ b, b < 8 ∧ apB h p b = true ∧ (grp c (c 4 p)).testBit b = true) := by
  unfold phas apB
  rw [e (23 + p) (by omega)]
theorem CP.grp_eq {h c : Hp} (e : CP h c) (q : Int) : grp c q = gT (c 4) (h 1 3).toNat q := by
  unfold grp gT
  rw [e 1 (by decide)]
theorem CP.ghas_eq {h c : Hp} (e : CP h c) (f : Int) (q g : Nat) : ghas c f q g = ghas h f q g := by
  have hh : ∀ y b, hasF c y b = hasF h y b := fun y b => by funext p; simp only [hasF, skB, e (23 + p) (by omega)]
  simp only [ghas, tks, rtw, lkl, lks, hh, neB, e 1 (by decide), e (39 + q) (by omega)]
set_option maxHeartbeats 2000000 in
set_option maxRecDepth 20000 in
theorem c_X8_wrongOf {d : Nat} {h c : Hp} {k : Nat} (hI : RI h) (r : RLr h) (hl : LDI h) (hk : AR k 0 8) (hcp : CP h c) (hApS : ∀ a, a < (h 1 3).toNat → apB h a a = false) (ht : ∀ p, p < (h 1 3).toNat → h k p = c 4 p ∧ -1 ≤ c 4 p ∧ c 4 p < h 1 4) : Fn (d + 2) MX8_wrongOf [mA 44, mA k] h (some (mI (flt c))) h := by
  intro Q hq X hX hR
  have hn := hI.n
  have hm := hI.q
  have en := r.n
  have eq := r.q
  have c1 : c 1 = h 1 := hcp 1 (by decide)
  have c12 : ∀ f p, phas c f p ↔ _ := fun f p => hcp.phas12
  have htr : ∀ p, p < (h 1 3).toNat → h k p = c 4 p ∧ rng (c 4 p) := fun p hp => by have := ht p hp; exact ⟨this.1, by omega, by omega⟩
  have fk : ∀ f : Int, ¬ (3 ≤ f ∧ f ≤ 6) → fltK c f = firstI (phas c f) (h 1 3).toNat 0 := fun f hf => by unfold fltK; rw [if_neg hf, c1]
  have fq : ∀ f : Int, 3 ≤ f ∧ f ≤ 6 → fltK c f = firstI (jhas c f) (h 1 4).toNat 0 := fun f hf => by unfold fltK; rw [if_pos hf, c1]
  -- the last WRONG
  have s7 : Q (some (mI (fltFrom c 1 7))) h → ∀ l3 l4 l5, VW X 193 [some (mA 44), some (mA k), some (mI 7), l3, l4, l5] [] h := by
    intro hq l3 l4 l5
    rw [fltFrom, fk 7 (by decide)] at hq
    have par : ∀ a : Nat, a < (h 1 3).toNat → (phas c 7 a ↔ ∃ b, b < (h 1 3).toNat ∧ apB h a b = true ∧ c 4 a ≠ -1 ∧ c 4 b = c 4 a) := fun a ha => by
      rw [c12]
      constructor
      · rintro (z | z | ⟨-, z2, b, b1, b2, b3⟩)
        · exact absurd z.1 (by decide)
        · exact absurd z.1 (by decide)
        · rw [hcp.grp_eq, gT, bs_bit, Bool.and_eq_true, decide_eq_true_eq, decide_eq_true_eq] at b3
          exact ⟨b, b3.1, b2, z2, b3.2⟩
      · rintro ⟨b, b1, b2, b3, b4⟩
        exact Or.inr (Or.inr ⟨rfl, b3, b, by omega, b2, by rw [hcp.grp_eq, gT, bs_bit]; simp [b1, b4]⟩)
    have e7 : firstI (phas c 7) (h 1 3).toNat 0 = firstI (fun a => ∃ b, a < b ∧ b < (h 1 3).toNat ∧ apB h a b = true ∧ c 4 a ≠ -1 ∧ c 4 b = c 4 a) (h 1 3).toNat 0 := by
      rw [firstI_congr (R := fun a => a < (h 1 3).toNat ∧ ∃ b, b < (h 1 3).toNat ∧ apB h a b = true ∧ c 4 a ≠ -1 ∧ c 4 b = c 4 a) (h 1 3).toNat 0 (fun i _ hi => ⟨fun z => ⟨by omega, (par i (by omega)).mp z⟩, fun z => (par i (by omega)).mpr z.2⟩)]
      refine firstI_eq _ _ (fun i z => ?_) (fun i _ hi z1 z2 => ?_)
      · obtain ⟨b, b1, b2, b3, b4, b5⟩ := z
        exact ⟨by omega, b, b2, b3, b4, b5⟩
      · obtain ⟨z0, b, b1, b2, b3, b4⟩ := z1
        by_cases h1 : i < b
        · exact absurd ⟨b, h1, b1, b2, b3, b4⟩ z2
        · by_cases h2 : b = i
          · subst h2
            exact absurd b2 (by
              intro y
              have := hApS b z0
              rw [this] at y
              cases y)
          · refine ⟨b, by omega, by omega, b1, i, z0, ?_, ?_, b4.symm⟩
            · rw [← (r.fr z0 b1).2.2.2.2.2]; exact b2
            · rw [b4]; exact b3
    rw [e7] at hq
    have aloop : ∀ (m a : Nat), a + m = (h 1 3).toNat → Q (some (mI (if firstI (fun a => ∃ b, a < b ∧ b < (h 1 3).toNat ∧ apB h a b = true ∧ c 4 a ≠ -1 ∧ c 4 b = c 4 a) m a = -1 then fltFrom c 0 (7 + 1) else 7 * 10 + firstI (fun a => ∃ b, a < b ∧ b < (h 1 3).toNat ∧ apB h a b = true ∧ c 4 a ≠ -1 ∧ c 4 b = c 4 a) m a))) h → ∀ l3 l4 l5, VW X 195 [some (mA 44), some (mA k), some (mI a), l3, l4, l5] [] h := by
      intro m
      induction m with
      | zero =>
        intro a ha hq l3 l4 l5
        refine v_iload_n hX eX8_wrongOf_195 rfl ?_
        refine v_aload_n hX eX8_wrongOf_196 rfl ?_
        refine v_getI hX eX8_wrongOf_197 fi_X8_84 ⟨by decide, rfl⟩ ?_
        refine v_icmp_ge hX eX8_wrongOf_200 (tgt := 261) rfl ⟨by omega, by omega⟩ ⟨by omega, by omega⟩ (fun c200 => ?_) (fun c200 => False.elim ((by omega)))
        refine v_iconst hX eX8_wrongOf_261 ?_
        exact v_ireturn hX hR eX8_wrongOf_262 rfl (hq)
      | succ m ih =>
        intro a ha hq l3 l4 l5
        obtain ⟨ta, ta1, ta2⟩ := ht a (by omega)
        have inner : ∀ (j b : Nat), b + j = (h 1 3).toNat → a < b → (∀ b', a < b' → b' < b → ¬ (apB h a b' = true ∧ c 4 a ≠ -1 ∧ c 4 b' = c 4 a)) → VW X 207 [some (mA 44), some (mA k), some (mI a), some (mI b), l4, l5] [] h := by
          intro j
          induction j with
          | zero =>
            intro b hb hab hno
            have hf : ¬ ∃ b, a < b ∧ b < (h 1 3).toNat ∧ apB h a b = true ∧ c 4 a ≠ -1 ∧ c 4 b = c 4 a := fun z => by
              obtain ⟨b', b1, b2, b3⟩ := z
              exact hno b' b1 (by omega) b3
            rw [firstI_f (P := fun a => ∃ b, a < b ∧ b < (h 1 3).toNat ∧ apB h a b = true ∧ c 4 a ≠ -1 ∧ c 4 b = c 4 a) hf] at hq
            refine v_iload_n hX eX8_wrongOf_207 rfl ?_
            refine v_aload_n hX eX8_wrongOf_208 rfl ?_
            refine v_getI hX eX8_wrongOf_209 fi_X8_84 ⟨by decide, rfl⟩ ?_
            refine v_icmp_ge hX eX8_wrongOf_212 (tgt := 255) rfl ⟨by omega, by omega⟩ ⟨by omega, by omega⟩ (fun c212 => ?_) (fun c212 => False.elim ((by omega)))
            refine v_iinc hX eX8_wrongOf_255 rfl rfl rfl ?_
            exact v_goto hX eX8_wrongOf_258 (tgt := 195) rfl (ih (a + 1) (by omega) hq _ _ _)
          | succ j ihj =>
            intro b hb hab hno
            obtain ⟨tb, tb1, tb2⟩ := ht b (by omega)
            obtain ⟨f1, f2, f3, f4, f5, f6⟩ := r.fr (a := a) (b := b) (by omega) (by omega)
            have ei : ((8 : Int) * a + b).toNat = 8 * a + b := by omega
            have next : ¬ (apB h a b = true ∧ c 4 a ≠ -1 ∧ c 4 b = c 4 a) → VW X 249 [some (mA 44), some (mA k), some (mI a), some (mI b), l4, l5] [] h := by
              intro hno2
              refine v_iinc hX eX8_wrongOf_249 rfl rfl rfl ?_
              exact v_goto hX eX8_wrongOf_252 (tgt := 207) rfl (ihj (b + 1) (by omega) (by omega) (fun b' b1 b2 => if e : b' = b then (by subst e; exact hno2) else hno b' b1 (by omega)))
            refine v_iload_n hX eX8_wrongOf_207 rfl ?_
            refine v_aload_n hX eX8_wrongOf_208 rfl ?_
            refine v_getI hX eX8_wrongOf_209 fi_X8_84 ⟨by decide, rfl⟩ ?_
            refine v_icmp_ge hX eX8_wrongOf_212 (tgt := 255) rfl ⟨by omega, by omega⟩ ⟨by omega, by omega⟩ (fun z => False.elim (by omega)) (fun z212 => ?_)
            refine v_aload_n hX eX8_wrongOf_215 rfl ?_
            refine v_getA hX eX8_wrongOf_216 fi_X8_32 ⟨by decide, rfl⟩ rfl ?_
            refine v_bipush hX eX8_wrongOf_219 (by decide) ?_
            refine v_iload_n hX eX8_wrongOf_221 rfl ?_
            refine v_imul hX eX8_wrongOf_222 ?_
            refine v_iload_n hX eX8_wrongOf_223 rfl ?_
            refine v_iadd hX eX8_wrongOf_224 ?_
            refine v_zald hX eX8_wrongOf_225 (⟨by decide, rfl⟩ : AR 52 1 64) ⟨by omega, by omega⟩ ?_
            rw [ei]
            refine v_if_eq hX eX8_wrongOf_226 (tgt := 249) rfl ⟨by omega, by omega⟩ (fun z => next (fun y => by have := f2.mp y.1; omega)) (fun z226 => ?_)
            have hap : apB h a b = true := f2.mpr (by omega)
            refine v_aload_n hX eX8_wrongOf_229 rfl ?_
            refine v_iload_n hX eX8_wrongOf_230 rfl ?_
            refine v_iald hX eX8_wrongOf_231 hk ⟨by omega, by omega⟩ ?_
            rw [Int.toNat_natCast, ta]
            refine v_if_lt hX eX8_wrongOf_232 (tgt := 249) rfl ⟨by omega, by omega⟩ (fun z => next (fun y => y.2.1 (by omega))) (fun z232 => ?_)
            refine v_aload_n hX eX8_wrongOf_235 rfl ?_
            refine v_iload_n hX eX8_wrongOf_236 rfl ?_
            refine v_iald hX eX8_wrongOf_237 hk ⟨by omega, by omega⟩ ?_
            rw [Int.toNat_natCast, ta]
            refine v_aload_n hX eX8_wrongOf_238 rfl ?_
            refine v_iload_n hX eX8_wrongOf_239 rfl ?_
            refine v_iald hX eX8_wrongOf_240 hk ⟨by omega, by omega⟩ ?_
            rw [Int.toNat_natCast, tb]
            refine v_icmp_ne hX eX8_wrongOf_241 (tgt := 249) rfl ⟨by omega, by omega⟩ ⟨by omega, by omega⟩ (fun z => next (fun y => z y.2.2.symm)) (fun z241 => ?_)
            have hf : ∃ b, a < b ∧ b < (h 1 3).toNat ∧ apB h a b = true ∧ c 4 a ≠ -1 ∧ c 4 b = c 4 a := ⟨b, hab, by omega, hap, by omega, z241.symm⟩
            rw [firstI_t (P := fun a => ∃ b, a < b ∧ b < (h 1 3).toNat ∧ apB h a b = true ∧ c 4 a ≠ -1 ∧ c 4 b = c 4 a) hf, if_neg (by omega)] at hq
            refine v_bipush hX eX8_wrongOf_244 (by decide) ?_
            refine v_iload_n hX eX8_wrongOf_246 rfl ?_
            refine v_iadd hX eX8_wrongOf_247 ?_
            exact v_ireturn hX hR eX8_wrongOf_248 rfl (hq)
        refine v_iload_n hX eX8_wrongOf_195 rfl ?_
        refine v_aload_n hX eX8_wrongOf_196 rfl ?_
        refine v_getI hX eX8_wrongOf_197 fi_X8_84 ⟨by decide, rfl⟩ ?_
        refine v_icmp_ge hX eX8_wrongOf_200 (tgt := 261) rfl ⟨by omega, by omega⟩ ⟨by omega, by omega⟩ (fun c200 => False.elim ((by omega))) (fun c200 => ?_)
        refine v_iload_n hX eX8_wrongOf_203 rfl ?_
        refine v_iconst hX eX8_wrongOf_204 ?_
        refine v_iadd hX eX8_wrongOf_205 ?_
        refine v_istore_n hX eX8_wrongOf_206 rfl rfl ?_
        exact inner ((h 1 3).toNat - (a + 1)) (a + 1) (by omega) (by omega) (fun b' b1 b2 => by omega)
    refine v_iconst hX eX8_wrongOf_193 ?_
    refine v_istore_n hX eX8_wrongOf_194 rfl rfl ?_
    exact aloop (h 1 3).toNat 0 (by omega) hq _ _ _
  -- WRONGS of PROJECTS
  have sz : ∀ q : Nat, q < (h 1 4).toNat → (cntF (fun p => decide (c 4 p = q)) (h 1 3).toNat) = bcnt (gT (c 4) (h 1 3).toNat q) ∧ (gT (c 4) (h 1 3).toNat q ≠ 0 ↔ cntF (fun p => decide (c 4 p = q)) (h 1 3).toNat ≠ 0) := fun q hq => by
    refine ⟨(bcnt_bs _ (by omega)).symm, ?_⟩
    rw [Ne, gT, bs_0, Ne, cntF_pos]
  have s36 : ∀ (m : Nat) (w : Int), w + m = 7 → 3 ≤ w → (w ≤ 4 ∨ ∀ q : Nat, q < (h 1 4).toNat → bcnt (gT (c 4) (h 1 3).toNat q) = 0 ∨ tks h q (bcnt (gT (c 4) (h 1 3).toNat q))) → Q (some (mI (fltFrom c (m + 1) w))) h → ∀ l3 l4 l5, VW X 74 [some (mA 44), some (mA k), some (mI w), l3, l4, l5] [] h := by
    intro m
    induction m with
    | zero =>
      intro w hw h3 hsz hq l3 l4 l5
      have e7 : w = 7 := by omega
      subst e7
      refine v_iload_n hX eX8_wrongOf_74 rfl ?_
      refine v_bipush hX eX8_wrongOf_75 (by decide) ?_
      refine v_icmp_gt hX eX8_wrongOf_77 (tgt := 193) rfl ⟨by omega, by omega⟩ ⟨by omega, by omega⟩ (fun c77 => ?_) (fun c77 => False.elim ((by omega)))
      exact s7 hq _ _ _
    | succ m ih =>
      intro w hw h3 hsz hq l3 l4 l5
      rw [fltFrom, fq w (by omega)] at hq
      have jh : ∀ q : Nat, jhas c w q ↔ ghas h w q (gT (c 4) (h 1 3).toNat q) := fun q => by unfold jhas; rw [hcp.ghas_eq, hcp.grp_eq]
      have qloop : ∀ (j q : Nat), q + j = (h 1 4).toNat → (∀ q', q' < q → ¬ jhas c w q') → Q (some (mI (if firstI (jhas c w) j q = -1 then fltFrom c (m + 1) (w + 1) else w * 10 + firstI (jhas c w) j q))) h → ∀ l4 l5, VW X 82 [some (mA 44), some (mA k), some (mI w), some (mI q), l4, l5] [] h := by
        intro j
        induction j with
        | zero =>
          intro q hqj hno hq l4 l5
          rw [firstI, if_pos rfl] at hq
          refine v_iload_n hX eX8_wrongOf_82 rfl ?_
          refine v_aload_n hX eX8_wrongOf_83 rfl ?_
          refine v_getI hX eX8_wrongOf_84 fi_X8_91 ⟨by decide, rfl⟩ ?_
          refine v_icmp_ge hX eX8_wrongOf_87 (tgt := 187) rfl ⟨by omega, by omega⟩ ⟨by omega, by omega⟩ (fun c87 => ?_) (fun c87 => False.elim ((by omega)))
          refine v_iinc hX eX8_wrongOf_187 rfl rfl rfl ?_
          refine v_goto hX eX8_wrongOf_190 (tgt := 74) rfl (ih (w + 1) (by omega) (by omega) ?_ hq _ _ _)
          rcases hsz with hsz | hsz
          · by_cases e4 : w = 4
            · right
              intro q' hq'
              by_cases z : bcnt (gT (c 4) (h 1 3).toNat q') = 0
              · exact Or.inl z
              · right
                refine Classical.byContradiction (fun y => hno q' (by omega) ((jh q').mpr ⟨?_, Or.inr (Or.inl ⟨e4, y⟩)⟩))
                rw [(sz q' hq').2, (sz q' hq').1]
                exact z
            · left; omega
          · exact Or.inr hsz
        | succ j ihj =>
          intro q hqj hno hq l4 l5
          obtain ⟨z1, z2⟩ := sz q (by omega)
          have cle := cntF_le (fun p => decide (c 4 p = q)) (h 1 3).toNat
          have r6 := (r.pr (q := q) (by omega)).2.2.2.2.2
          have p6 := (hI.pr (p := q) (by omega)).2.2.2.2.2.1
          have tail : ∀ (P : Prop) l4, (P ↔ ¬ jhas c w q) → VW X 167 [some (mA 44), some (mA k), some (mI w), some (mI q), some (mI l4), l5] [mI (b01 P)] h := by
            intro P l4 hP
            by_cases hj : jhas c w q
            · rw [firstI_t hj, if_neg (by omega)] at hq
              rw [b01_f (fun z => hP.mp z hj)]
              refine v_istore hX eX8_wrongOf_167 rfl rfl ?_
              refine v_iload hX eX8_wrongOf_169 rfl ?_
              refine v_if_ne hX eX8_wrongOf_171 (tgt := 181) rfl ⟨by omega, by omega⟩ (fun c171 => False.elim ((absurd rfl c171))) (fun c171 => ?_)
              refine v_bipush hX eX8_wrongOf_174 (by decide) ?_
              refine v_iload_n hX eX8_wrongOf_176 rfl ?_
              refine v_imul hX eX8_wrongOf_177 ?_
              refine v_iload_n hX eX8_wrongOf_178 rfl ?_
              refine v_iadd hX eX8_wrongOf_179 ?_
              exact v_ireturn hX hR eX8_wrongOf_180 rfl (by rw [Int.mul_comm] at hq; exact hq)
            · rw [firstI_f hj] at hq
              rw [b01_t (hP.mpr hj)]
              refine v_istore hX eX8_wrongOf_167 rfl rfl ?_
              refine v_iload hX eX8_wrongOf_169 rfl ?_
              refine v_if_ne hX eX8_wrongOf_171 (tgt := 181) rfl ⟨by omega, by omega⟩ (fun c171 => ?_) (fun c171 => False.elim ((absurd c171 (by decide))))
              refine v_iinc hX eX8_wrongOf_181 rfl rfl rfl ?_
              exact v_goto hX eX8_wrongOf_184 (tgt := 82) rfl (ihj (q + 1) (by omega) (fun q' hq' => if e : q' = q then (by subst e; exact hj) else hno q' (by omega)) hq _ _)
          have tt : ∀ l4, ¬ jhas c w q → VW X 167 [some (mA 44), some (mA k), some (mI w), some (mI q), some (mI l4), l5] [mI 1] h := fun l4 hj => by
            have := tail True l4 ⟨fun _ => hj, fun _ => trivial⟩
            rw [b01_t trivial] at this
            exact this
          have tf : ∀ l4, jhas c w q → VW X 167 [some (mA 44), some (mA k), some (mI w), some (mI q), some (mI l4), l5] [mI 0] h := fun l4 hj => by
            have := tail False l4 ⟨fun z => z.elim, fun z => z hj⟩
            rw [b01_f (fun z => z)] at this
            exact this
          rcases (show w = 3 ∨ w = 4 ∨ w = 5 ∨ w = 6 by omega) with rfl | rfl | rfl | rfl
          · refine v_iload_n hX eX8_wrongOf_82 rfl ?_
            refine v_aload_n hX eX8_wrongOf_83 rfl ?_
            refine v_getI hX eX8_wrongOf_84 fi_X8_91 ⟨by decide, rfl⟩ ?_
            refine v_icmp_ge hX eX8_wrongOf_87 (tgt := 187) rfl ⟨by omega, by omega⟩ ⟨by omega, by omega⟩ (fun c87 => False.elim ((by omega))) (fun c87 => ?_)
            refine v_aload_n hX eX8_wrongOf_90 rfl ?_
            refine v_iload_n hX eX8_wrongOf_91 rfl ?_
            refine v_aload_n hX eX8_wrongOf_92 rfl ?_
            refine v_getI hX eX8_wrongOf_93 fi_X8_84 ⟨by decide, rfl⟩ ?_
            rw [show h 44 1 = (((h 1 3).toNat : Nat) : Int) by omega]
            refine v_fnS hX eX8_wrongOf_96 lS_X8_143 ok_MX8_sizeOf ⟨rfl, Nat.le_of_ble_eq_true rfl⟩ (Nat.le_of_ble_eq_true rfl) (c_X8_sizeOf (n := (h 1 3).toNat) (q := (q : Int)) hk (by omega) htr ⟨by omega, by omega⟩) rfl ?_
            try simp only [Int.toNat_natCast, Int.toNat_zero, Int.reduceToNat]
            refine v_istore hX eX8_wrongOf_99 rfl rfl ?_
            refine v_iload_n hX eX8_wrongOf_101 rfl ?_
            refine v_iconst hX eX8_wrongOf_102 ?_
            refine v_icmp_ne hX eX8_wrongOf_103 (tgt := 128) rfl ⟨by omega, by omega⟩ ⟨by omega, by omega⟩ (fun c103 => False.elim ((absurd rfl c103))) (fun c103 => ?_)
            refine v_aload_n hX eX8_wrongOf_106 rfl ?_
            refine v_getA hX eX8_wrongOf_107 fi_X8_53 ⟨by decide, rfl⟩ rfl ?_
            refine v_iload_n hX eX8_wrongOf_110 rfl ?_
            refine v_zald hX eX8_wrongOf_111 (by first | exact ⟨by decide, rfl⟩ | exact AR_rk (by omega)) ⟨by omega, by omega⟩ ?_
            try simp only [Int.toNat_natCast, Int.toNat_zero, Int.reduceToNat]
            refine v_if_ne hX eX8_wrongOf_112 (tgt := 120) rfl ⟨by omega, by omega⟩ (fun c112 => ?_) (fun c112 => ?_)
            · refine v_iconst hX eX8_wrongOf_120 ?_
              refine v_goto hX eX8_wrongOf_121 (tgt := 167) rfl ?_
              exact tt _ (fun z => by rcases ((jh q).mp z).2 with y | y | y | y; (have := y.2; omega); exact absurd y.1 (by decide); exact absurd y.1 (by decide); exact absurd y.1 (by decide))
            · refine v_iload hX eX8_wrongOf_115 rfl ?_
              refine v_if_ne hX eX8_wrongOf_117 (tgt := 124) rfl ⟨by omega, by omega⟩ (fun c117 => ?_) (fun c117 => ?_)
              · refine v_iconst hX eX8_wrongOf_124 ?_
                refine v_goto hX eX8_wrongOf_125 (tgt := 167) rfl ?_
                exact tf _ ((jh q).mpr ⟨z2.mpr (by omega), Or.inl ⟨rfl, by omega⟩⟩)
              · refine v_iconst hX eX8_wrongOf_120 ?_
                refine v_goto hX eX8_wrongOf_121 (tgt := 167) rfl ?_
                exact tt _ (fun z => z2.mp ((jh q).mp z).1 (by omega))
          · refine v_iload_n hX eX8_wrongOf_82 rfl ?_
            refine v_aload_n hX eX8_wrongOf_83 rfl ?_
            refine v_getI hX eX8_wrongOf_84 fi_X8_91 ⟨by decide, rfl⟩ ?_
            refine v_icmp_ge hX eX8_wrongOf_87 (tgt := 187) rfl ⟨by omega, by omega⟩ ⟨by omega, by omega⟩ (fun c87 => False.elim ((by omega))) (fun c87 => ?_)
            refine v_aload_n hX eX8_wrongOf_90 rfl ?_
            refine v_iload_n hX eX8_wrongOf_91 rfl ?_
            refine v_aload_n hX eX8_wrongOf_92 rfl ?_
            refine v_getI hX eX8_wrongOf_93 fi_X8_84 ⟨by decide, rfl⟩ ?_
            rw [show h 44 1 = (((h 1 3).toNat : Nat) : Int) by omega]
            refine v_fnS hX eX8_wrongOf_96 lS_X8_143 ok_MX8_sizeOf ⟨rfl, Nat.le_of_ble_eq_true rfl⟩ (Nat.le_of_ble_eq_true rfl) (c_X8_sizeOf (n := (h 1 3).toNat) (q := (q : Int)) hk (by omega) htr ⟨by omega, by omega⟩) rfl ?_
            try simp only [Int.toNat_natCast, Int.toNat_zero, Int.reduceToNat]
            refine v_istore hX eX8_wrongOf_99 rfl rfl ?_
            refine v_iload_n hX eX8_wrongOf_101 rfl ?_
            refine v_iconst hX eX8_wrongOf_102 ?_
            refine v_icmp_ne hX eX8_wrongOf_103 (tgt := 128) rfl ⟨by omega, by omega⟩ ⟨by omega, by omega⟩ (fun c103 => ?_) (fun c103 => False.elim ((absurd c103 (by decide))))
            refine v_iload_n hX eX8_wrongOf_128 rfl ?_
            refine v_iconst hX eX8_wrongOf_129 ?_
            refine v_icmp_ne hX eX8_wrongOf_130 (tgt := 143) rfl ⟨by omega, by omega⟩ ⟨by omega, by omega⟩ (fun c130 => False.elim ((absurd rfl c130))) (fun c130 => ?_)
            refine v_aload_n hX eX8_wrongOf_133 rfl ?_
            refine v_iload_n hX eX8_wrongOf_134 rfl ?_
            refine v_iload hX eX8_wrongOf_135 rfl ?_
            refine v_fnV hX eX8_wrongOf_137 lV_X8_147 ok_MX8_isSize ⟨by decide, rfl⟩ rfl ⟨rfl, Nat.le_of_ble_eq_true rfl⟩ (Nat.le_of_ble_eq_true rfl) (c_X8_isSize hI r (by omega) (by omega)) rfl ?_
            try simp only [Int.toNat_natCast, Int.toNat_zero, Int.reduceToNat]
            refine v_goto hX eX8_wrongOf_140 (tgt := 167) rfl ?_
            exact tail _ _ (by
              rw [jh]
              constructor
              · intro y z
                rcases z.2 with x | x | x | x
                · exact absurd x.1 (by decide)
                · rcases y with y | y
                  · exact z2.mp z.1 (by omega)
                  · rw [z1] at y; exact x.2 y
                · exact absurd x.1 (by decide)
                · exact absurd x.1 (by decide)
              · intro y
                by_cases z : cntF (fun p => decide (c 4 p = q)) (h 1 3).toNat = 0
                · left; omega
                · right
                  refine Classical.byContradiction (fun x => y ⟨z2.mpr z, Or.inr (Or.inl ⟨rfl, ?_⟩)⟩)
                  rw [← z1]; exact x)
          · refine v_iload_n hX eX8_wrongOf_82 rfl ?_
            refine v_aload_n hX eX8_wrongOf_83 rfl ?_
            refine v_getI hX eX8_wrongOf_84 fi_X8_91 ⟨by decide, rfl⟩ ?_
            refine v_icmp_ge hX eX8_wrongOf_87 (tgt := 187) rfl ⟨by omega, by omega⟩ ⟨by omega, by omega⟩ (fun c87 => False.elim ((by omega))) (fun c87 => ?_)
            refine v_aload_n hX eX8_wrongOf_90 rfl ?_
            refine v_iload_n hX eX8_wrongOf_91 rfl ?_
            refine v_aload_n hX eX8_wrongOf_92 rfl ?_
            refine v_getI hX eX8_wrongOf_93 fi_X8_84 ⟨by decide, rfl⟩ ?_
            rw [show h 44 1 = (((h 1 3).toNat : Nat) : Int) by omega]
            refine v_fnS hX eX8_wrongOf_96 lS_X8_143 ok_MX8_sizeOf ⟨rfl, Nat.le_of_ble_eq_true rfl⟩ (Nat.le_of_ble_eq_true rfl) (c_X8_sizeOf (n := (h 1 3).toNat) (q := (q : Int)) hk (by omega) htr ⟨by omega, by omega⟩) rfl ?_
            try simp only [Int.toNat_natCast, Int.toNat_zero, Int.reduceToNat]
            refine v_istore hX eX8_wrongOf_99 rfl rfl ?_
            refine v_iload_n hX eX8_wrongOf_101 rfl ?_
            refine v_iconst hX eX8_wrongOf_102 ?_
            refine v_icmp_ne hX eX8_wrongOf_103 (tgt := 128) rfl ⟨by omega, by omega⟩ ⟨by omega, by omega⟩ (fun c103 => ?_) (fun c103 => False.elim ((absurd c103 (by decide))))
            refine v_iload_n hX eX8_wrongOf_128 rfl ?_
            refine v_iconst hX eX8_wrongOf_129 ?_
            refine v_icmp_ne hX eX8_wrongOf_130 (tgt := 143) rfl ⟨by omega, by omega⟩ ⟨by omega, by omega⟩ (fun c130 => ?_) (fun c130 => False.elim ((absurd c130 (by decide))))
            refine v_iload_n hX eX8_wrongOf_143 rfl ?_
            refine v_iconst hX eX8_wrongOf_144 ?_
            refine v_icmp_ne hX eX8_wrongOf_145 (tgt := 159) rfl ⟨by omega, by omega⟩ ⟨by omega, by omega⟩ (fun c145 => False.elim ((absurd rfl c145))) (fun c145 => ?_)
            refine v_aload_n hX eX8_wrongOf_148 rfl ?_
            refine v_aload_n hX eX8_wrongOf_149 rfl ?_
            refine v_iload_n hX eX8_wrongOf_150 rfl ?_
            refine v_iload hX eX8_wrongOf_151 rfl ?_
            refine v_fnV hX eX8_wrongOf_153 lV_X8_150 ok_MX8_isLed ⟨by decide, rfl⟩ rfl ⟨rfl, Nat.le_of_ble_eq_true rfl⟩ (Nat.le_of_ble_eq_true rfl) (c_X8_isLed hI r hl (by omega) hk ⟨by omega, by omega⟩ htr) rfl ?_
            try simp only [Int.toNat_natCast, Int.toNat_zero, Int.reduceToNat]
            refine v_goto hX eX8_wrongOf_156 (tgt := 167) rfl ?_
            exact tail _ _ (by
              rw [jh]
              constructor
              · intro y z
                rcases z.2 with x | x | x | x
                · exact absurd x.1 (by decide)
                · exact absurd x.1 (by decide)
                · rcases y with y | y
                  · exact z2.mp z.1 (by omega)
                  · exact y x.2
                · exact absurd x.1 (by decide)
              · intro y
                by_cases z : cntF (fun p => decide (c 4 p = q)) (h 1 3).toNat = 0
                · left; omega
                · exact Or.inr (fun x => y ⟨z2.mpr z, Or.inr (Or.inr (Or.inl ⟨rfl, x⟩))⟩))
          · refine v_iload_n hX eX8_wrongOf_82 rfl ?_
            refine v_aload_n hX eX8_wrongOf_83 rfl ?_
            refine v_getI hX eX8_wrongOf_84 fi_X8_91 ⟨by decide, rfl⟩ ?_
            refine v_icmp_ge hX eX8_wrongOf_87 (tgt := 187) rfl ⟨by omega, by omega⟩ ⟨by omega, by omega⟩ (fun c87 => False.elim ((by omega))) (fun c87 => ?_)
            refine v_aload_n hX eX8_wrongOf_90 rfl ?_
            refine v_iload_n hX eX8_wrongOf_91 rfl ?_
            refine v_aload_n hX eX8_wrongOf_92 rfl ?_
            refine v_getI hX eX8_wrongOf_93 fi_X8_84 ⟨by decide, rfl⟩ ?_
            rw [show h 44 1 = (((h 1 3).toNat : Nat) : Int) by omega]
            refine v_fnS hX eX8_wrongOf_96 lS_X8_143 ok_MX8_sizeOf ⟨rfl, Nat.le_of_ble_eq_true rfl⟩ (Nat.le_of_ble_eq_true rfl) (c_X8_sizeOf (n := (h 1 3).toNat) (q := (q : Int)) hk (by omega) htr ⟨by omega, by omega⟩) rfl ?_
            try simp only [Int.toNat_natCast, Int.toNat_zero, Int.reduceToNat]
            refine v_istore hX eX8_wrongOf_99 rfl rfl ?_
            refine v_iload_n hX eX8_wrongOf_101 rfl ?_
            refine v_iconst hX eX8_wrongOf_102 ?_
            refine v_icmp_ne hX eX8_wrongOf_103 (tgt := 128) rfl ⟨by omega, by omega⟩ ⟨by omega, by omega⟩ (fun c103 => ?_) (fun c103 => False.elim ((absurd c103 (by decide))))
            refine v_iload_n hX eX8_wrongOf_128 rfl ?_
            refine v_iconst hX eX8_wrongOf_129 ?_
            refine v_icmp_ne hX eX8_wrongOf_130 (tgt := 143) rfl ⟨by omega, by omega⟩ ⟨by omega, by omega⟩ (fun c130 => ?_) (fun c130 => False.elim ((absurd c130 (by decide))))
            refine v_iload_n hX eX8_wrongOf_143 rfl ?_
            refine v_iconst hX eX8_wrongOf_144 ?_
            refine v_icmp_ne hX eX8_wrongOf_145 (tgt := 159) rfl ⟨by omega, by omega⟩ ⟨by omega, by omega⟩ (fun c145 => ?_) (fun c145 => False.elim ((absurd c145 (by decide))))
            refine v_aload_n hX eX8_wrongOf_159 rfl ?_
            refine v_aload_n hX eX8_wrongOf_160 rfl ?_
            refine v_iload_n hX eX8_wrongOf_161 rfl ?_
            refine v_iload hX eX8_wrongOf_162 rfl ?_
            refine v_fnV hX eX8_wrongOf_164 lV_X8_154 ok_MX8_hasSkills ⟨by decide, rfl⟩ rfl ⟨rfl, Nat.le_of_ble_eq_true rfl⟩ (Nat.le_of_ble_eq_true rfl) (c_X8_hasSkills hI r (by omega) hk z1 (by rw [z1]; exact (hsz.resolve_left (by decide)) q (by omega)) htr) rfl ?_
            try simp only [Int.toNat_natCast, Int.toNat_zero, Int.reduceToNat]
            exact tail _ _ (by
              rw [jh]
              constructor
              · intro y z
                rcases z.2 with x | x | x | x
                · exact absurd x.1 (by decide)
                · exact absurd x.1 (by decide)
                · exact absurd x.1 (by decide)
                · rcases y with y | y
                  · exact z2.mp z.1 y
                  · exact y x.2
              · intro y
                by_cases z : cntF (fun p => decide (c 4 p = q)) (h 1 3).toNat = 0
                · exact Or.inl z
                · exact Or.inr (fun x => y ⟨z2.mpr z, Or.inr (Or.inr (Or.inr ⟨rfl, x⟩))⟩))
      refine v_iload_n hX eX8_wrongOf_74 rfl ?_
      refine v_bipush hX eX8_wrongOf_75 (by decide) ?_
      refine v_icmp_gt hX eX8_wrongOf_77 (tgt := 193) rfl ⟨by omega, by omega⟩ ⟨by omega, by omega⟩ (fun c77 => False.elim ((by omega))) (fun c77 => ?_)
      refine v_iconst hX eX8_wrongOf_80 ?_
      refine v_istore_n hX eX8_wrongOf_81 rfl rfl ?_
      exact qloop (h 1 4).toNat 0 (by omega) (fun q' hq' => absurd hq' (Nat.not_lt_zero _)) hq _ _
  -- the first two WRONGS
  have s2 : Q (some (mI (fltFrom c 6 2))) h → VW X 36 [some (mA 44), some (mA k), some (mI (h 1 3)), none, none, none] [] h := by
    intro hq
    rw [fltFrom, fk 2 (by decide)] at hq
    have ploop : ∀ (j p : Nat), p + j = (h 1 3).toNat → Q (some (mI (if firstI (phas c 2) j p = -1 then fltFrom c 5 (2 + 1) else 2 * 10 + firstI (phas c 2) j p))) h → VW X 38 [some (mA 44), some (mA k), some (mI p), none, none, none] [] h := by
      intro j
      induction j with
      | zero =>
        intro p hp hq
        refine v_iload_n hX eX8_wrongOf_38 rfl ?_
        refine v_aload_n hX eX8_wrongOf_39 rfl ?_
        refine v_getI hX eX8_wrongOf_40 fi_X8_84 ⟨by decide, rfl⟩ ?_
        refine v_icmp_ge hX eX8_wrongOf_43 (tgt := 72) rfl ⟨by omega, by omega⟩ ⟨by omega, by omega⟩ (fun c43 => ?_) (fun c43 => False.elim ((by omega)))
        refine v_iconst hX eX8_wrongOf_72 ?_
        refine v_istore_n hX eX8_wrongOf_73 rfl rfl ?_
        exact s36 4 3 (by decide) (by decide) (Or.inl (by decide)) hq _ _ _
      | succ j ih =>
        intro p hp hq
        obtain ⟨tp, tp1, tp2⟩ := ht p (by omega)
        have hz := (hI.pu (p := p) (by omega)).2.2.2.2.2.1
        have e46 := (r.pu (p := p) (by omega)).2
        have ph : phas c 2 p ↔ h (23 + p) 6 = 0 ∧ c 4 p ≠ -1 := by
          rw [c12]
          constructor
          · rintro (z | z | z)
            · exact absurd z.1 (by decide)
            · exact z.2
            · exact absurd z.1 (by decide)
          · intro z; exact Or.inr (Or.inl ⟨rfl, z⟩)
        have next : ¬ phas c 2 p → VW X 66 [some (mA 44), some (mA k), some (mI p), none, none, none] [] h := by
          intro hno
          rw [firstI_f hno] at hq
          refine v_iinc hX eX8_wrongOf_66 rfl rfl rfl ?_
          exact v_goto hX eX8_wrongOf_69 (tgt := 38) rfl (ih (p + 1) (by omega) hq)
        refine v_iload_n hX eX8_wrongOf_38 rfl ?_
        refine v_aload_n hX eX8_wrongOf_39 rfl ?_
        refine v_getI hX eX8_wrongOf_40 fi_X8_84 ⟨by decide, rfl⟩ ?_
        refine v_icmp_ge hX eX8_wrongOf_43 (tgt := 72) rfl ⟨by omega, by omega⟩ ⟨by omega, by omega⟩ (fun z => False.elim (by omega)) (fun _ => ?_)
        refine v_aload_n hX eX8_wrongOf_46 rfl ?_
        refine v_getA hX eX8_wrongOf_47 fi_X8_13 ⟨by decide, rfl⟩ rfl ?_
        refine v_iload_n hX eX8_wrongOf_50 rfl ?_
        refine v_zald hX eX8_wrongOf_51 (⟨by decide, rfl⟩ : AR 46 1 8) ⟨by omega, by omega⟩ ?_
        rw [Int.toNat_natCast, e46]
        refine v_if_ne hX eX8_wrongOf_52 (tgt := 66) rfl ⟨by omega, by omega⟩ (fun z => next (fun y => z (ph.mp y).1)) (fun z52 => ?_)
        refine v_aload_n hX eX8_wrongOf_55 rfl ?_
        refine v_iload_n hX eX8_wrongOf_56 rfl ?_
        refine v_iald hX eX8_wrongOf_57 hk ⟨by omega, by omega⟩ ?_
        rw [Int.toNat_natCast, tp]
        refine v_if_lt hX eX8_wrongOf_58 (tgt := 66) rfl ⟨by omega, by omega⟩ (fun z => next (fun y => (ph.mp y).2 (by omega))) (fun z58 => ?_)
        rw [firstI_t (ph.mpr ⟨z52, by omega⟩), if_neg (by omega)] at hq
        refine v_bipush hX eX8_wrongOf_61 (by decide) ?_
        refine v_iload_n hX eX8_wrongOf_63 rfl ?_
        refine v_iadd hX eX8_wrongOf_64 ?_
        exact v_ireturn hX hR eX8_wrongOf_65 rfl (hq)
    refine v_iconst hX eX8_wrongOf_36 ?_
    refine v_istore_n hX eX8_wrongOf_37 rfl rfl ?_
    exact ploop (h 1 3).toNat 0 (by omega) hq
  have s1 : ∀ (j p : Nat), p + j = (h 1 3).toNat → Q (some (mI (if firstI (phas c 1) j p = -1 then fltFrom c 6 (1 + 1) else 1 * 10 + firstI (phas c 1) j p))) h → VW X 2 [some (mA 44), some (mA k), some (mI p), none, none, none] [] h := by
    intro j
    induction j with
    | zero =>
      intro p hp hq
      have s2' := s2 hq
      rw [show h 1 3 = (p : Int) by omega] at s2'
      refine v_iload_n hX eX8_wrongOf_2 rfl ?_
      refine v_aload_n hX eX8_wrongOf_3 rfl ?_
      refine v_getI hX eX8_wrongOf_4 fi_X8_84 ⟨by decide, rfl⟩ ?_
      refine v_icmp_ge hX eX8_wrongOf_7 (tgt := 36) rfl ⟨by omega, by omega⟩ ⟨by omega, by omega⟩ (fun c7 => ?_) (fun c7 => False.elim ((by omega)))
      exact s2'
    | succ j ih =>
      intro p hp hq
      obtain ⟨tp, tp1, tp2⟩ := ht p (by omega)
      have hz := (hI.pu (p := p) (by omega)).2.2.2.2.2.1
      have e46 := (r.pu (p := p) (by omega)).2
      have ph : phas c 1 p ↔ h (23 + p) 6 = 1 ∧ c 4 p = -1 := by
        rw [c12]
        constructor
        · rintro (z | z | z)
          · exact z.2
          · exact absurd z.1 (by decide)
          · exact absurd z.1 (by decide)
        · intro z; exact Or.inl ⟨rfl, z⟩
      have next : ¬ phas c 1 p → VW X 30 [some (mA 44), some (mA k), some (mI p), none, none, none] [] h := by
        intro hno
        rw [firstI_f hno] at hq
        refine v_iinc hX eX8_wrongOf_30 rfl rfl rfl ?_
        exact v_goto hX eX8_wrongOf_33 (tgt := 2) rfl (ih (p + 1) (by omega) hq)
      refine v_iload_n hX eX8_wrongOf_2 rfl ?_
      refine v_aload_n hX eX8_wrongOf_3 rfl ?_
      refine v_getI hX eX8_wrongOf_4 fi_X8_84 ⟨by decide, rfl⟩ ?_
      refine v_icmp_ge hX eX8_wrongOf_7 (tgt := 36) rfl ⟨by omega, by omega⟩ ⟨by omega, by omega⟩ (fun z => False.elim (by omega)) (fun _ => ?_)
      refine v_aload_n hX eX8_wrongOf_10 rfl ?_
      refine v_getA hX eX8_wrongOf_11 fi_X8_13 ⟨by decide, rfl⟩ rfl ?_
      refine v_iload_n hX eX8_wrongOf_14 rfl ?_
      refine v_zald hX eX8_wrongOf_15 (⟨by decide, rfl⟩ : AR 46 1 8) ⟨by omega, by omega⟩ ?_
      rw [Int.toNat_natCast, e46]
      refine v_if_eq hX eX8_wrongOf_16 (tgt := 30) rfl ⟨by omega, by omega⟩ (fun z => next (fun y => by have := (ph.mp y).1; omega)) (fun z16 => ?_)
      refine v_aload_n hX eX8_wrongOf_19 rfl ?_
      refine v_iload_n hX eX8_wrongOf_20 rfl ?_
      refine v_iald hX eX8_wrongOf_21 hk ⟨by omega, by omega⟩ ?_
      rw [Int.toNat_natCast, tp]
      refine v_if_ge hX eX8_wrongOf_22 (tgt := 30) rfl ⟨by omega, by omega⟩ (fun z => next (fun y => by have := (ph.mp y).2; omega)) (fun z22 => ?_)
      rw [firstI_t (ph.mpr ⟨by omega, by omega⟩), if_neg (by omega)] at hq
      refine v_bipush hX eX8_wrongOf_25 (by decide) ?_
      refine v_iload_n hX eX8_wrongOf_27 rfl ?_
      refine v_iadd hX eX8_wrongOf_28 ?_
      exact v_ireturn hX hR eX8_wrongOf_29 rfl (hq)
  have hq1 : Q (some (mI (if firstI (phas c 1) (h 1 3).toNat 0 = -1 then fltFrom c 6 (1 + 1) else 1 * 10 + firstI (phas c 1) (h 1 3).toNat 0))) h := by
    have := hq
    unfold flt at this
    rw [fltFrom, fk 1 (by decide)] at this
    exact this
  show VW X 0 [some (mA 44), some (mA k), none, none, none, none] [] h
  refine v_iconst hX eX8_wrongOf_0 ?_
  refine v_istore_n hX eX8_wrongOf_1 rfl rfl ?_
  exact s1 (h 1 3).toNat 0 (by omega) hq1
