/-! best, plans, change -/
theorem RA.plan {h x : Hp} (g : RA h) (e : ∀ a, a ≠ 4 → a ≠ 50 → x a = h a) (g3 : G3 x) : RA x := by
  obtain ⟨g1, g2, _, g5, g6⟩ := g
  have sr : SR h x := ⟨fun k hk => e k (by omega) (by omega), fun k hk => e k (by omega) (by omega), by rw [e 44 (by omega) (by omega)], by rw [e 44 (by omega) (by omega)]⟩
  exact ⟨g1.sr sr, g2.congr g1.1 (sr.1 1 (by omega)) (fun p hp => ⟨sr.1 _ (by omega), sr.1 _ (by omega)⟩) (e 47 (by omega) (by omega)) (e 48 (by omega) (by omega)) (e 49 (by omega) (by omega)), g3, g5.congr (sr.1 1 (by omega)) (e 3 (by omega) (by omega)) (by rw [e 44 (by omega) (by omega)]) (fun k hk => e k (by omega) (by omega)) (fun p hp => by rw [sr.1 (23 + p) (by omega)]), g6.congr (by rw [e 0 (by omega) (by omega)]) (by rw [e 44 (by omega) (by omega)]) (e 5 (by omega) (by omega)) (e 67 (by omega) (by omega))⟩
theorem RA.plan2 {h x : Hp} (g : RA h) (e : ∀ a b, ¬ EXC a b → a ≠ 4 → a ≠ 50 → x a b = h a b) (g3 : G3 x) : RA x := by
  have c := g.congr (x := setR (setR x 4 (h 4)) 50 (h 50)) (fun a b hn => by
    by_cases h50 : a = 50
    · subst h50; rw [setR_same]
    · rw [setR_ne h50]
      by_cases h4 : a = 4
      · subst h4; rw [setR_same]
      · rw [setR_ne h4]; exact e a b hn h4 h50)
  exact c.plan (fun a h4 h50 => by rw [setR_ne h50, setR_ne h4]) g3
theorem PRH_o {h : Hp} {a : Nat} (h2 : a ≠ 2) (h13 : ¬ (13 ≤ a ∧ a ≤ 20)) : PRH h a = h a := PRi_ne (by omega) (by omega) (by omega) (by omega) (by omega) (by omega) (by omega)
theorem HYR_h {h : Hp} (g : REL h) {e : Hp} (ef : EFH e h) : HYR h e := by
  obtain ⟨hI, r, hl, ap, o, f⟩ := g.1.1
  have hm := hI.q
  exact ⟨hI, r, hl, ap, ef, fun p hp => by have := g.1.2.2.1.1 p hp; omega⟩
theorem bsR_fok {h : Hp} (hI : RI h) (hF : FDI h) : FOK (bsR h).2.2.2 := by
  have hm := hI.q
  refine ext_fok (by rw [PRH_27]; omega) 8 _ _ (fun p hp => by rw [PRH_15 hp]; decide) (fun p hp => ?_)
  show -1 ≤ PRH h 16 p ∧ PRH h 16 p < 5
  have e16 : PRH h 16 = h 16 := PRi_ne (by decide) (by decide) (by decide) (by decide) (by decide) (by decide) (by decide)
  rw [e16]
  exact hF p hp
/-- THE PLAN on both sides out of one leaf -/
theorem plan_G3 {b x y : Hp} {h : Hp} {u : Nat → Int} (hI : RI b) (w : PTH b u (b 1 3).toNat) (e1 : b 1 = h 1) (x1 : x 1 = h 1) (x4 : ∀ j, j < 8 → x 4 j = u j) (x50 : ∀ j, j < (h 1 3).toNat → x 50 j = u j) : G3 x := by
  have tu := w.tr hI
  have hn := hI.n
  rw [e1] at tu hn
  refine ⟨fun p hp => ?_, fun p h1 h2 => ?_⟩
  · rw [x1] at hp ⊢
    rw [x4 p (by omega), x50 p hp]
    have := tu p hp
    exact ⟨rfl, this.1, this.2⟩
  · rw [x1] at h1
    rw [x4 p h2]
    exact w.2 p h2 (fun z => by rw [e1] at z; omega)
theorem ag_best {h : Hp} (g : REL h) : AGR MX7_best MX8_best [] h := by
  obtain ⟨hI, r, hl, ap, o, fr⟩ := g.1.1
  obtain ⟨hS, hF, hT⟩ := g.2
  have hn := hI.n
  have hm := hI.q
  have hE := PRH_ENV hI hS
  have fok := bsR_fok hI hF
  have cen := CEN_PRH hI r o
  have v := PV_SPh hI r g.1.2.1.1
  refine agr_rr (fun d => c_X7_best (d := d + 7) hI hS (plc_8 hI o)) (fun rr g1 hc => ?_)
  obtain ⟨g0, bg, sg, hc⟩ := hc
  have g0o : ∀ a, a ≠ 2 → ¬ (13 ≤ a ∧ a ≤ 20) → g0 a = h a := fun a h1 h2 => by rw [bg.1 a h1 (by omega) (by omega) (by omega)]; exact PRH_o h1 h2
  have g16 : g0 16 = (bsR h).2.2.2 := by rw [← sg]; rfl
  have sci0 : ∀ k, k = 19 ∨ k = 20 → g0 k = PRH h k := fun k hk => bg.1 k (by omega) (by omega) (by omega) (by omega)
  -- the heap behind the class's call
  have g1o : ∀ a, a ≠ 2 → ¬ (13 ≤ a ∧ a ≤ 20) → a ≠ 4 → g1 a = h a := fun a h1 h2 h3 => by
    rcases hc with ⟨_, _, e⟩ | ⟨_, _, e⟩
    · rw [e]; funext b; unfold cpyH; rw [if_neg (fun z => h3 z.1), g0o a h1 h2]
    · rw [e]; exact g0o a h1 h2
  have g1s : ∀ a, 13 ≤ a → a ≤ 20 → g1 a = g0 a := fun a h1 h2 => by
    rcases hc with ⟨_, _, e⟩ | ⟨_, _, e⟩
    · rw [e]; funext b; unfold cpyH; rw [if_neg (by omega)]
    · rw [e]
  generalize hgg : up g1 44 0 0 = gg
  have ggo : ∀ a b, ¬ (a = 44 ∧ b = 0) → gg a b = g1 a b := fun a b hh => by rw [← hgg, up_ne hh]
  have ggb : ∀ a, a ≠ 44 → gg a = g1 a := fun a hh => by rw [← hgg, up_obf hh]
  have g44 : ∀ b, b ≠ 0 → gg 44 b = h 44 b := fun b hb => by rw [ggo 44 b (by omega), g1o 44 (by omega) (by omega) (by omega)]
  have sr : SR h gg := ⟨fun k hk => by rw [ggb k (by omega)]; exact g1o k (by omega) (by omega) (by omega), fun k hk => by rw [ggb k (by omega)]; exact g1o k (by omega) (by omega) (by omega), g44 1 (by omega), g44 11 (by omega)⟩
  have y := (HYR_h g EFH_PRH).sr sr (by rw [ggb 50 (by omega)]; exact g1o 50 (by omega) (by omega) (by omega))
  have v2 : PV (SPh h) gg := v.congr (g44 1 (by omega)) (fun k hk => by rw [ggb k (by omega)]; exact g1o k (by omega) (by omega) (by omega))
  have e1 : gg 1 = h 1 := sr.1 1 (by omega)
  have c8 := fun d => c_X8_best (d := d + 5) (t := PRH h 15) (f := PRH h 16) hgg y v2 hE cen (fun j hj => PRH_15 hj)
  have c8' : ∀ d, Fr (d + 20) MX8_best [mA 44] g1 _ := c8
  have finish : ∀ y x : Hp, MS (alH gg 2) y → (∀ a, a ≠ 50 → x a = y a) → ∀ a b, ¬ EXC a b → a ≠ 4 → a ≠ 50 → x a b = h a b := fun y x my xy a b hn h4 h50 => by
    unfold EXC at hn
    rw [xy a h50, my a b (by omega) (by omega) (by omega), alH_ne (by omega), ggo a b (by omega), g1o a (by omega) (by omega) h4]
  have finG4 : ∀ y x : Hp, MS (alH gg 2) y → (∀ a, a ≠ 50 → x a = y a) → G4 x := fun y x my xy => by
    have ek : ∀ k, k = 7 ∨ k = 16 ∨ k = 19 ∨ k = 20 → x k = g1 k := fun k hk => by rw [xy k (by omega), my.ob (by omega) (by omega) (by omega), alH_ob (by omega), ggb k (by omega)]
    refine ⟨fun i hi => ?_, fun p hp => ?_, fun j hj => ?_⟩
    · rw [ek 19 (by omega), ek 20 (by omega), g1s 19 (by omega) (by omega), g1s 20 (by omega) (by omega), sci0 19 (by omega), sci0 20 (by omega)]
      exact hE.2.2.1 i hi
    · rw [ek 16 (by omega), g1s 16 (by omega) (by omega), g16]
      exact fok p hp
    · rw [ek 7 (by omega), g1o 7 (by omega) (by omega) (by omega)]
      exact hT j hj
  have ei : RI (alH gg 2) := alH_sr.ri y.1
  have ae1 : alH gg 2 1 = h 1 := by rw [alH_ob (by decide), e1]
  rcases hc with ⟨hit, rv, gv⟩ | ⟨hit, rv, gv⟩
  · refine ⟨1, rv, _, c8', fun r2 x hx => ?_⟩
    obtain ⟨y2, ⟨my, ry⟩, hx⟩ := hx
    have bc : ext (PRH h) 1 8 (PRH h 15) (ABV, ABV, 0, PRH h 16) = bsR h := rfl
    rw [bc] at ry
    rcases ry.2 with ⟨b1, b2, _⟩ | ⟨b1, b2, u, b3, b4, b5⟩
    · omega
    · rcases hx with ⟨z, _, _⟩ | ⟨_, rx, tk⟩
      · omega
      · have xy : ∀ a, a ≠ 50 → x a = y2 a := fun a ha => tk.n ha
        refine ⟨rx, g.1.plan2 (finish y2 x my xy) ?_, finG4 y2 x my xy⟩
        refine plan_G3 (b := alH gg 2) (h := h) (y := y2) ei b3 ae1 (by rw [xy 1 (by omega), my.ob (by omega) (by omega) (by omega), ae1]) (fun j hj => ?_) (fun j hj => ?_)
        · rw [xy 4 (by omega), my.ob (by omega) (by omega) (by omega), alH_ob (by decide), ggb 4 (by omega), gv]
          unfold cpyH
          rw [if_pos ⟨rfl, hj⟩, g16, b4 j hj]
        · rw [tk.2 j (by rw [e1]; exact hj)]
          exact b5.2.2.2.2.2.2 j hj
  · refine ⟨0, rv, _, c8', fun r2 x hx => ?_⟩
    obtain ⟨y2, ⟨my, ry⟩, hx⟩ := hx
    have bc : ext (PRH h) 1 8 (PRH h 15) (ABV, ABV, 0, PRH h 16) = bsR h := rfl
    rw [bc] at ry
    rcases ry.2 with ⟨b1, b2, _⟩ | ⟨b1, b2, _⟩
    · rcases hx with ⟨_, rx, xv⟩ | ⟨z, _, _⟩
      · have xy : ∀ a, a ≠ 50 → x a = y2 a := fun a _ => by rw [xv]
        refine ⟨rx, g.1.plan2 (finish y2 x my xy) (g.1.2.2.1.congr (by rw [xy 1 (by omega), my.ob (by omega) (by omega) (by omega), ae1]) ?_ ?_), finG4 y2 x my xy⟩
        · rw [xy 4 (by omega), my.ob (by omega) (by omega) (by omega), alH_ob (by decide), ggb 4 (by omega), gv]
          exact g0o 4 (by omega) (by omega)
        · rw [xv, my.ob (by omega) (by omega) (by omega), alH_ob (by decide), ggb 50 (by omega)]
          exact g1o 50 (by omega) (by omega) (by omega)
      · omega
    · exact absurd b2 hit
theorem ag_change {h : Hp} (g : REL h) : AGR MX7_change MX8_change [] h := by
  obtain ⟨hI, r, hl, ap, o, fr⟩ := g.1.1
  obtain ⟨hS, hF, hT⟩ := g.2
  have hn := hI.n
  have hm := hI.q
  have hL := PLI_of hI g.1.2.2.1
  have hE := chH_ENV hI hS (Nat.le_refl (h 1 3).toNat)
  have e15 : chH h (h 1 3).toNat 15 = PRH h 15 := chH_ne (by decide)
  have fok : FOK (crR h).2.2.2 := by
    refine ext_fok (by rw [chH_ne (by decide), PRH_27]; omega) 8 _ _ (fun p hp => by rw [PRH_15 hp]; decide) (fun p hp => ?_)
    show -1 ≤ PRH h 16 p ∧ PRH h 16 p < 5
    have e16 : PRH h 16 = h 16 := PRi_ne (by decide) (by decide) (by decide) (by decide) (by decide) (by decide) (by decide)
    rw [e16]
    exact hF p hp
  have cen := CEN_chH (pl := h 50) hI r o hL (fun p hp => (g.1.2.2.1.1 p hp).1)
  have v := PV_SPh hI r g.1.2.1.1
  refine agr_rr (fun d => c_X7_change (d := d + 7) hI hL hS hF (plc_8 hI o)) (fun rr g1 hc => ?_)
  obtain ⟨g0, bg, sg, hc⟩ := hc
  have g0o : ∀ a, a ≠ 2 → ¬ (13 ≤ a ∧ a ≤ 20) → g0 a = h a := fun a h1 h2 => by rw [bg.1 a h1 (by omega) (by omega) (by omega), chH_ne (by omega)]; exact PRH_o h1 h2
  have g16 : g0 16 = (crR h).2.2.2 := by rw [← sg]; rfl
  have sci0 : ∀ k, k = 19 ∨ k = 20 → g0 k = chH h (h 1 3).toNat k := fun k hk => bg.1 k (by omega) (by omega) (by omega) (by omega)
  have g1o : ∀ a, a ≠ 2 → ¬ (13 ≤ a ∧ a ≤ 20) → a ≠ 4 → g1 a = h a := fun a h1 h2 h3 => by
    rcases hc with ⟨_, _, e⟩ | ⟨_, _, e⟩
    · rw [e]; funext b; unfold cpyH; rw [if_neg (fun z => h3 z.1), g0o a h1 h2]
    · rw [e]; exact g0o a h1 h2
  have g1s : ∀ a, 13 ≤ a → a ≤ 20 → g1 a = g0 a := fun a h1 h2 => by
    rcases hc with ⟨_, _, e⟩ | ⟨_, _, e⟩
    · rw [e]; funext b; unfold cpyH; rw [if_neg (by omega)]
    · rw [e]
  generalize hgg : up g1 44 0 0 = gg
  have ggo : ∀ a b, ¬ (a = 44 ∧ b = 0) → gg a b = g1 a b := fun a b hh => by rw [← hgg, up_ne hh]
  have ggb : ∀ a, a ≠ 44 → gg a = g1 a := fun a hh => by rw [← hgg, up_obf hh]
  have g44 : ∀ b, b ≠ 0 → gg 44 b = h 44 b := fun b hb => by rw [ggo 44 b (by omega), g1o 44 (by omega) (by omega) (by omega)]
  have g50 : gg 50 = h 50 := by rw [ggb 50 (by omega)]; exact g1o 50 (by omega) (by omega) (by omega)
  have sr : SR h gg := ⟨fun k hk => by rw [ggb k (by omega)]; exact g1o k (by omega) (by omega) (by omega), fun k hk => by rw [ggb k (by omega)]; exact g1o k (by omega) (by omega) (by omega), g44 1 (by omega), g44 11 (by omega)⟩
  have y := (HYR_h g (EFH_chH (h := h) (i := (h 1 3).toNat))).sr sr g50
  have v2 : PV (SPh h) gg := v.congr (g44 1 (by omega)) (fun k hk => by rw [ggb k (by omega)]; exact g1o k (by omega) (by omega) (by omega))
  have e1 : gg 1 = h 1 := sr.1 1 (by omega)
  have c8 := fun d => c_X8_change (d := d + 5) (t := PRH h 15) (f := PRH h 16) hgg y v2 hE (by rw [g50]; exact cen) (fun j hj => PRH_15 hj)
  rw [g50] at c8
  have finish : ∀ y x : Hp, MS (alH gg 3) y → (∀ a, a ≠ 50 → x a = y a) → ∀ a b, ¬ EXC a b → a ≠ 4 → a ≠ 50 → x a b = h a b := fun y x my xy a b hn h4 h50 => by
    unfold EXC at hn
    rw [xy a h50, my a b (by omega) (by omega) (by omega), alH_ne (by omega), ggo a b (by omega), g1o a (by omega) (by omega) h4]
  have finG4 : ∀ y x : Hp, MS (alH gg 3) y → (∀ a, a ≠ 50 → x a = y a) → G4 x := fun y x my xy => by
    have ek : ∀ k, k = 7 ∨ k = 16 ∨ k = 19 ∨ k = 20 → x k = g1 k := fun k hk => by rw [xy k (by omega), my.ob (by omega) (by omega) (by omega), alH_ob (by omega), ggb k (by omega)]
    refine ⟨fun i hi => ?_, fun p hp => ?_, fun j hj => ?_⟩
    · rw [ek 19 (by omega), ek 20 (by omega), g1s 19 (by omega) (by omega), g1s 20 (by omega) (by omega), sci0 19 (by omega), sci0 20 (by omega)]
      exact hE.2.2.1 i hi
    · rw [ek 16 (by omega), g1s 16 (by omega) (by omega), g16]
      exact fok p hp
    · rw [ek 7 (by omega), g1o 7 (by omega) (by omega) (by omega)]
      exact hT j hj
  have ei : RI (alH gg 3) := alH_sr.ri y.1
  have ae1 : alH gg 3 1 = h 1 := by rw [alH_ob (by decide), e1]
  have bc : ext (chH h (h 1 3).toNat) 1 8 (PRH h 15) (ABV, ABV, 0, PRH h 16) = crR h := rfl
  rw [bc] at c8
  rcases hc with ⟨hit, rv, gv⟩ | ⟨hit, rv, gv⟩
  · refine ⟨_, rv, _, c8, fun r2 x hx => ?_⟩
    obtain ⟨y2, ⟨my, ry⟩, hx⟩ := hx
    rcases ry.2 with ⟨b1, b2, _⟩ | ⟨b1, b2, u, b3, b4, b5⟩
    · omega
    · rcases hx with ⟨z, _, _⟩ | ⟨_, rx, tk⟩
      · omega
      · have xy : ∀ a, a ≠ 50 → x a = y2 a := fun a ha => tk.n ha
        refine ⟨?_, g.1.plan2 (finish y2 x my xy) ?_, finG4 y2 x my xy⟩
        · rw [rx, b5.2.2.2.2.2.1]
          congr 2
          unfold mvT
          congr 1
          have ext8 := cntF_ext (mvN (PRH h) (h 4) (crR h).2.2.2) (8 - (h 1 3).toNat) (h 1 3).toNat (fun i hi => by
            unfold mvN; rw [PRH_isP]; simp [show ¬ i < (h 1 3).toNat by omega])
          rw [show (h 1 3).toNat + (8 - (h 1 3).toNat) = 8 by omega] at ext8
          rw [ext8]
          refine cntF_congr _ (fun i (hi : i < (h 1 3).toNat) => ?_)
          show (prF h i && mvC (h 50) i (u i)) = mvN (PRH h) (h 4) (crR h).2.2.2 i
          unfold mvN mvC
          rw [PRH_isP, b4 i (by omega), (g.1.2.2.1.1 i hi).1]
          have p4 := g.1.2.2.1.1 i hi
          by_cases z : prF h i = true
          · have pu := b3.1 i (by rw [ae1]; exact hi) (by unfold prF; rw [alH_ob (by omega), sr.1 (23 + i) (by omega)]; exact z)
            have e0 : (decide (0 ≤ h 4 i)) = decide (h 4 i ≠ -1) := by
              rw [Bool.eq_iff_iff]; simp only [decide_eq_true_eq]; omega
            simp [z, hi, pu.1, e0]
          · simp [z]
        · refine plan_G3 (b := alH gg 3) (h := h) (y := y2) ei b3 ae1 (by rw [xy 1 (by omega), my.ob (by omega) (by omega) (by omega), ae1]) (fun j hj => ?_) (fun j hj => ?_)
          · rw [xy 4 (by omega), my.ob (by omega) (by omega) (by omega), alH_ob (by decide), ggb 4 (by omega), gv]
            unfold cpyH
            rw [if_pos ⟨rfl, hj⟩, g16, b4 j hj]
          · rw [tk.2 j (by rw [e1]; exact hj)]
            exact b5.2.2.2.2.2.2 j hj
  · refine ⟨_, rv, _, c8, fun r2 x hx => ?_⟩
    obtain ⟨y2, ⟨my, ry⟩, hx⟩ := hx
    rcases ry.2 with ⟨b1, b2, _⟩ | ⟨b1, b2, _⟩
    · rcases hx with ⟨_, rx, xv⟩ | ⟨z, _, _⟩
      · have xy : ∀ a, a ≠ 50 → x a = y2 a := fun a _ => by rw [xv]
        refine ⟨rx, g.1.plan2 (finish y2 x my xy) (g.1.2.2.1.congr (by rw [xy 1 (by omega), my.ob (by omega) (by omega) (by omega), ae1]) ?_ ?_), finG4 y2 x my xy⟩
        · rw [xy 4 (by omega), my.ob (by omega) (by omega) (by omega), alH_ob (by decide), ggb 4 (by omega), gv]
          exact g0o 4 (by omega) (by omega)
        · rw [xv, my.ob (by omega) (by omega) (by omega), alH_ob (by decide), g50]
      · omega
    · exact absurd b2 hit
theorem ag_plans {h : Hp} (g : REL h) {w : Int} (hw : rng w) : AGR MX7_plans MX8_plans [mI w] h := by
  obtain ⟨hI, r, hl, ap, o, fr⟩ := g.1.1
  obtain ⟨hS, hF, hT⟩ := g.2
  have hn := hI.n
  have hm := hI.q
  have hE := PRH_ENV hI hS
  have cen := CEN_PRH hI r o
  have v := PV_SPh hI r g.1.2.1.1
  by_cases ok : w = 0 ∨ w = 1
  · have fok : FOK (plR h w).2.2.2 := by
      have base : FOK (PRH h 16) := fun p hp => by
        have e16 : PRH h 16 = h 16 := PRi_ne (by decide) (by decide) (by decide) (by decide) (by decide) (by decide) (by decide)
        rw [e16]
        exact hF p hp
      unfold plR
      split
      · exact ext_fok (by rw [PRH_27]; omega) 8 _ _ (fun p hp => by rw [PRH_15 hp]; decide) base
      · exact ext_fok (by rw [PRH_27]; omega) 8 _ _ (fun p hp => by rw [PRH_15 hp]; decide) base
    refine agr_rr (fun d => c_X7_plans (d := d + 7) hI (PLI_of hI g.1.2.2.1) hS (plc_8 hI o) ok) (fun rr g0 hc => ?_)
    obtain ⟨rv, bg, sg⟩ := hc
    have g0o : ∀ a, a ≠ 2 → ¬ (13 ≤ a ∧ a ≤ 20) → g0 a = h a := fun a h1 h2 => by rw [bg.1 a h1 (by omega) (by omega) (by omega)]; exact PRH_o h1 h2
    have g16 : g0 16 = (plR h w).2.2.2 := by rw [← sg]; rfl
    have sci0 : ∀ k, k = 19 ∨ k = 20 → g0 k = PRH h k := fun k hk => bg.1 k (by omega) (by omega) (by omega) (by omega)
    generalize hgg : up g0 44 0 0 = gg
    have ggo : ∀ a b, ¬ (a = 44 ∧ b = 0) → gg a b = g0 a b := fun a b hh => by rw [← hgg, up_ne hh]
    have ggb : ∀ a, a ≠ 44 → gg a = g0 a := fun a hh => by rw [← hgg, up_obf hh]
    have g44 : ∀ b, b ≠ 0 → gg 44 b = h 44 b := fun b hb => by rw [ggo 44 b (by omega), g0o 44 (by omega) (by omega)]
    have g50 : gg 50 = h 50 := by rw [ggb 50 (by omega)]; exact g0o 50 (by omega) (by omega)
    have g4 : gg 4 = h 4 := by rw [ggb 4 (by omega)]; exact g0o 4 (by omega) (by omega)
    have sr : SR h gg := ⟨fun k hk => by rw [ggb k (by omega)]; exact g0o k (by omega) (by omega), fun k hk => by rw [ggb k (by omega)]; exact g0o k (by omega) (by omega), g44 1 (by omega), g44 11 (by omega)⟩
    have y := (HYR_h g EFH_PRH).sr sr g50
    have v2 : PV (SPh h) gg := v.congr (g44 1 (by omega)) (fun k hk => by rw [ggb k (by omega)]; exact g0o k (by omega) (by omega))
    have e1 : gg 1 = h 1 := sr.1 1 (by omega)
    have pq : PQ gg := (g.1.2.2.1.congr e1 g4 g50).1
    have fin : ∀ (c : Int) (k1 x : Hp), KPx (SPh h) gg 50 (gg 4) k1 → MS (alH k1 c) x → REL x := fun c k1 x kp mx => by
      have xg : ∀ a b, ¬ (a = 44 ∧ 18 ≤ b ∧ b ≤ 28) → a ≠ 60 → a ≠ 61 → x a b = gg a b := fun a b h1 h2 h3 => by
        rw [mx a b (by omega) h2 h3, alH_ne (by omega), kp.1 a b (by omega) h3]
      have xk : ∀ k, k = 7 ∨ k = 16 ∨ k = 19 ∨ k = 20 → x k = g0 k := fun k hk => by
        rw [← ggb k (by omega)]; exact funext fun b => xg k b (by omega) (by omega) (by omega)
      refine ⟨g.1.congr (fun a b hn => ?_), fun i hi => ?_, fun p hp => ?_, fun j hj => ?_⟩
      · unfold EXC at hn
        rw [xg a b (by omega) (by omega) (by omega), ggo a b (by omega), g0o a (by omega) (by omega)]
      · rw [xk 19 (by omega), xk 20 (by omega), sci0 19 (by omega), sci0 20 (by omega)]
        exact hE.2.2.1 i hi
      · rw [xk 16 (by omega), g16]
        exact fok p hp
      · rw [xk 7 (by omega), g0o 7 (by omega) (by omega)]
        exact hT j hj
    rcases ok with rfl | rfl
    · refine ⟨_, rv, _, fun d => c_X8_plans0 (d := d + 5) (t := PRH h 15) (f := PRH h 16) hgg y pq v2 hE (fun j hj => PRH_15 hj), fun r2 x hx => ?_⟩
      obtain ⟨rx, k1, kp, mx⟩ := hx
      exact ⟨by rw [rx]; unfold plR; rw [if_pos rfl], fin 0 k1 x kp mx⟩
    · refine ⟨_, rv, _, fun d => c_X8_plans1 (d := d + 5) (t := PRH h 15) (f := PRH h 16) hgg y pq v2 hE cen (fun j hj => PRH_15 hj), fun r2 x hx => ?_⟩
      obtain ⟨rx, k1, kp, mx⟩ := hx
      have e4 : PRH h 4 = h 4 := PRH_o (by decide) (by decide)
      exact ⟨by rw [rx]; unfold plR; rw [if_neg (by decide), e4, g4], fin 1 k1 x kp mx⟩
  · exact agr_fn (fun d => c_X7_plans_N (d := d + 7) hw ok) (fun d => c_X8_plans_N (d := d + 19) rfl hw ok) (g.t0 (v := 0))
