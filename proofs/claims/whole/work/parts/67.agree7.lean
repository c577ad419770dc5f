/-! swap, lie -/
theorem RA.told {h x : Hp} (g : RA h) (e : ∀ a b, ¬ EXC a b → a ≠ 5 → ¬ (a = 0 ∧ b = 7) → ¬ (a = 44 ∧ b = 36) → a ≠ 67 → x a b = h a b) (g6 : G6 x) : RA x := by
  have ob : ∀ a, a ≠ 44 → a ≠ 0 → a ≠ 5 → a ≠ 67 → a ≠ 2 → a ≠ 6 → a ≠ 7 → ¬ (13 ≤ a ∧ a ≤ 20) → ¬ (60 ≤ a ∧ a ≤ 63) → x a = h a := fun a h1 h2 h3 h4 h5 h6 h7 h8 h9 => funext fun b => e a b (fun z => by unfold EXC at z; omega) h3 (by omega) (by omega) h4
  have m : ∀ b, b ≠ 0 → ¬ (18 ≤ b ∧ b ≤ 28) → b ≠ 36 → x 44 b = h 44 b := fun b h1 h2 h3 => e 44 b (fun z => by unfold EXC at z; omega) (by omega) (by omega) (by omega) (by omega)
  obtain ⟨g1, g2, g3, g5, _⟩ := g
  have sr : SR h x := ⟨fun k hk => ob k (by omega) (by omega) (by omega) (by omega) (by omega) (by omega) (by omega) (by omega) (by omega), fun k hk => ob k (by omega) (by omega) (by omega) (by omega) (by omega) (by omega) (by omega) (by omega) (by omega), m 1 (by omega) (by omega) (by omega), m 11 (by omega) (by omega) (by omega)⟩
  exact ⟨g1.sr sr, g2.congr g1.1 (sr.1 1 (by omega)) (fun p hp => ⟨sr.1 _ (by omega), sr.1 _ (by omega)⟩) (ob 47 (by omega) (by omega) (by omega) (by omega) (by omega) (by omega) (by omega) (by omega) (by omega)) (ob 48 (by omega) (by omega) (by omega) (by omega) (by omega) (by omega) (by omega) (by omega) (by omega)) (ob 49 (by omega) (by omega) (by omega) (by omega) (by omega) (by omega) (by omega) (by omega) (by omega)),
    g3.congr (sr.1 1 (by omega)) (ob 4 (by omega) (by omega) (by omega) (by omega) (by omega) (by omega) (by omega) (by omega) (by omega)) (ob 50 (by omega) (by omega) (by omega) (by omega) (by omega) (by omega) (by omega) (by omega) (by omega)),
    g5.congr (sr.1 1 (by omega)) (ob 3 (by omega) (by omega) (by omega) (by omega) (by omega) (by omega) (by omega) (by omega) (by omega)) (m 31 (by omega) (by omega) (by omega)) (fun k hk => ob k (by omega) (by omega) (by omega) (by omega) (by omega) (by omega) (by omega) (by omega) (by omega)) (fun p hp => by rw [sr.1 (23 + p) (by omega)]), g6⟩
theorem swOk_cg {h x : Hp} (hI : RI h) (e1 : x 1 = h 1) (e4 : x 4 = h 4) (ep : ∀ p, p < 8 → x (23 + p) = h (23 + p) ∧ x (31 + p) = h (31 + p)) (eq : ∀ q, q < 5 → x (39 + q) = h (39 + q)) {a b : Nat} (ha : a < 8) (hb : b < 8) : swOk x a b ↔ swOk h a b := by
  have hn := hI.n
  have fe : flt (swp x 4 a b) = flt (swp h 4 a b) := by
    have sI : RI (swp h 4 a b) := hI.congr (fun k hk => by unfold swp; rw [up_obf (by omega), up_obf (by omega)])
    have o : ∀ g : Hp, ∀ k, k ≠ 4 → swp g 4 a b k = g k := fun g k k4 => by
      unfold swp
      rw [up_obf k4, up_obf k4]
    refine flt_congr sI (by rw [o x 1 (by decide), o h 1 (by decide), e1]) (funext fun p => by rw [swp4_at, swp4_at, e4]) (fun p hp => ?_) (fun q hq => by rw [o x _ (by omega), o h _ (by omega), eq q hq])
    rw [o h 1 (by decide)] at hp
    rw [o x _ (by omega), o h _ (by omega), (ep p (by omega)).1]
    exact ⟨rfl, rfl, rfl⟩
  unfold swOk bgP plF prF gnP rkP rkI
  rw [fe, e1, e4, (ep a ha).1, (ep b hb).1, (ep a ha).2, (ep b hb).2]
theorem ag_swap {h : Hp} (g : REL h) : AGR MX7_swap MX8_swap [] h := by
  have hI := g.1.1.1
  have hn := hI.n
  have hL := PLI_of hI g.1.2.2.1
  refine agr_rr (fun d => c_X7_swap (d := d + 14) hI hL) (fun rr g1 hc => ?_)
  have g1o : ∀ a b, ¬ (a = 5 ∧ b < 2) → ¬ (a = 0 ∧ b = 7) → g1 a b = h a b := fun a b h1 h2 => by
    rcases hc with ⟨i, j, _, _, _, _, _, e⟩ | ⟨_, _, e⟩
    · rw [e, up_ne (by omega), up_ne (by omega), up_ne (by omega)]
    · rw [e]
  generalize hgg : up g1 44 0 0 = gg
  have ggo : ∀ a b, ¬ (a = 5 ∧ b < 2) → ¬ (a = 0 ∧ b = 7) → ¬ (a = 44 ∧ b = 0) → gg a b = h a b := fun a b h1 h2 h3 => by rw [← hgg, up_ne h3]; exact g1o a b h1 h2
  have ggb : ∀ a, a ≠ 5 → a ≠ 0 → a ≠ 44 → gg a = h a := fun a h1 h2 h3 => funext fun b => ggo a b (by omega) (by omega) (by omega)
  have sr : SR h gg := ⟨fun k hk => ggb k (by omega) (by omega) (by omega), fun k hk => ggb k (by omega) (by omega) (by omega), ggo 44 1 (by omega) (by omega) (by omega), ggo 44 11 (by omega) (by omega) (by omega)⟩
  have e1 : gg 1 = h 1 := sr.1 1 (by omega)
  have ep : ∀ p, p < 8 → gg (23 + p) = h (23 + p) ∧ gg (31 + p) = h (31 + p) := fun p hp => ⟨sr.1 _ (by omega), sr.1 _ (by omega)⟩
  have G1g := g.1.1.sr sr
  have G2g := g.1.2.1.congr hI e1 ep (ggb 47 (by omega) (by omega) (by omega)) (ggb 48 (by omega) (by omega) (by omega)) (ggb 49 (by omega) (by omega) (by omega))
  have G3g := g.1.2.2.1.congr e1 (ggb 4 (by omega) (by omega) (by omega)) (ggb 50 (by omega) (by omega) (by omega))
  have sw : ∀ a b, a < b → b < (h 1 3).toNat → (swOk gg a b ↔ swOk h a b) := fun a b h1 h2 => swOk_cg hI e1 (ggb 4 (by omega) (by omega) (by omega)) ep (fun q hq => sr.1 _ (by omega)) (by omega) (by omega)
  have c8 := fun d => c_X8_swap (d := d + 16) hgg G1g.1 G1g.2.1 G1g.2.2.1 G1g.2.2.2.1 G2g.1 G3g.1
  have g4 : ∀ x : Hp, (∀ k, k = 7 ∨ k = 16 ∨ k = 19 ∨ k = 20 → x k = h k) → G4 x := fun x hx => g.2.congr hx
  rcases hc with ⟨a, b, ab, bn, ok, mn, rv, gv⟩ | ⟨no, rv, gv⟩
  · refine ⟨1, rv, _, c8, fun r2 x hx => ?_⟩
    unfold mSw at hx
    obtain ⟨f, hx⟩ := hx
    rw [e1] at hx
    rcases hx with ⟨a2, b2, ab2, bn2, ok2, mn2, rx, xv⟩ | ⟨no2, _, _⟩
    · have ok2' := (sw a2 b2 ab2 bn2).mp ok2
      have n1 := mn a2 b2 ab2 bn2
      have n2 := mn2 a b ab bn
      have key : a2 = a ∧ b2 = b := by
        rcases Nat.lt_trichotomy a2 a with z | z | z
        · exact absurd ok2' (n1 (Or.inl z))
        · rcases Nat.lt_trichotomy b2 b with y | y | y
          · exact absurd ok2' (n1 (Or.inr ⟨z, y⟩))
          · exact ⟨z, y⟩
          · exact absurd ((sw a b ab bn).mpr ok) (n2 (Or.inr ⟨z.symm, y⟩))
        · exact absurd ((sw a b ab bn).mpr ok) (n2 (Or.inl z))
      obtain ⟨rfl, rfl⟩ := key
      have xo : ∀ c d, c ≠ 60 → ¬ (c = 44 ∧ d = 36) → ¬ (c = 67 ∧ d < 2) → x c d = gg c d := fun c d h1 h2 h3 => by rw [xv, up_ne (by omega), up_ne (by omega), up_ne (by omega), setR_ne h1]
      refine ⟨rx, g.1.told (fun c d hn h5 h0 h36 h67 => ?_) ?_, g4 x (fun k hk => by rw [← ggb k (by omega) (by omega) (by omega)]; exact funext fun d => xo k d (by omega) (by omega) (by omega))⟩
      · unfold EXC at hn
        rw [xo c d (by omega) (by omega) (by omega)]
        exact ggo c d (by omega) (by omega) (by omega)
      · have x07 : x 0 7 = 2 := by rw [xo 0 7 (by omega) (by omega) (by omega), ← hgg, up_ne (by omega), gv, up_same]
        have x36 : x 44 36 = 2 := by rw [xv, up_ne (by omega), up_ne (by omega), up_same]
        have x50 : x 5 0 = a2 := by rw [xo 5 0 (by omega) (by omega) (by omega), ← hgg, up_ne (by omega), gv, up_ne (by omega), up_ne (by omega), up_same]
        have x51 : x 5 1 = b2 := by rw [xo 5 1 (by omega) (by omega) (by omega), ← hgg, up_ne (by omega), gv, up_ne (by omega), up_same]
        have x670 : x 67 0 = a2 := by rw [xv, up_ne (by omega), up_same]
        have x671 : x 67 1 = b2 := by rw [xv, up_same]
        refine ⟨by rw [x07]; omega, by rw [x36, x07], fun i hi => ?_⟩
        rw [x07] at hi
        rcases (show i = 0 ∨ i = 1 by omega) with rfl | rfl
        · rw [x670, x50]; exact ⟨rfl, by constructor <;> omega⟩
        · rw [x671, x51]; exact ⟨rfl, by constructor <;> omega⟩
    · exact absurd ((sw a b ab bn).mpr ok) (no2 a b ab bn)
  · refine ⟨0, rv, _, c8, fun r2 x hx => ?_⟩
    unfold mSw at hx
    obtain ⟨f, hx⟩ := hx
    rw [e1] at hx
    rcases hx with ⟨a2, b2, ab2, bn2, ok2, _, _, _⟩ | ⟨_, rx, xv⟩
    · exact absurd ((sw a2 b2 ab2 bn2).mp ok2) (no a2 b2 ab2 bn2)
    · have xo : ∀ c d, ¬ (c = 44 ∧ d = 0) → c ≠ 60 → x c d = h c d := fun c d h1 h2 => by rw [xv, setR_ne h2, ← hgg, up_ne h1, gv]
      exact ⟨rx, g.1.congr (fun c d hn => by unfold EXC at hn; exact xo c d (by omega) (by omega)), g4 x (fun k hk => funext fun d => xo k d (by omega) (by omega))⟩
theorem any_Q {e : Hp} {j : Nat} (hj : j < 8) (hp : isP e j = true) : ∀ (k : Nat) (t : Nat → Int), k ≤ 8 → 8 - k ≤ j → anyOk e k t → 0 < (e 2 7).toNat
  | 0, _, _, h, _ => by omega
  | k + 1, t, hk, h, a => by
    rw [anyOk] at a
    split at a
    · obtain ⟨q, hq, _⟩ := a
      omega
    · rename_i z
      exact any_Q hj hp k t (by omega) (by
        by_cases e2 : j = 7 - k
        · exact absurd (e2 ▸ hp) z
        · omega) a
theorem ag_lie {h : Hp} (g : REL h) {p : Int} (hp : rng p) : AGR MX7_lie MX8_lie [mI p] h := by
  obtain ⟨hI, r, hl, ap, o, fr⟩ := g.1.1
  obtain ⟨hS, hF, hT⟩ := g.2
  have hn := hI.n
  have hm := hI.q
  by_cases ok : inN h p ∧ prF h p.toNat = true ∧ cntF (prF h) (h 1 3).toNat ≤ 5
  · obtain ⟨⟨p1, p2⟩, hpr, hc5⟩ := ok
    have hE := PRH_ENV hI hS
    have hQ1 : 0 < (bsR h).2.2.1 → 0 < h 1 4 := fun hb => by
      have := any_Q (e := PRH h) (j := p.toNat) (by omega) (by rw [PRH_isP, hpr]; simp; omega) 8 _ (Nat.le_refl 8) (by omega) ((bsR_any hE).mp hb)
      rw [PRH_27] at this
      omega
    have c7 := fun d => c_X7_lie (d := d + 6) (p := p.toNat) hI hS hF hT (plc_8 hI o) (by omega) hpr hc5 hQ1
    rw [show ((p.toNat : Nat) : Int) = p by omega] at c7
    generalize hi : p.toNat = i at c7 hpr
    refine agr_rr c7 (fun rr g1 hc => ?_)
    -- what the class's call leaves
    have left : ∃ g3, TF (PRH h) i g3 ∧ (∀ a, a ≠ 0 → a ≠ 5 → g1 a = g3 a) ∧ (∀ b, b ≠ 7 → g1 0 b = g3 0 b) := by
      rcases hc with ⟨_, _, t⟩ | ⟨_, _, _, t⟩ | ⟨_, _, fa, ⟨f, g3, _, _, _, t, _, e⟩ | ⟨_, _, t⟩⟩
      · exact ⟨g1, t, fun _ _ _ => rfl, fun _ _ => rfl⟩
      · exact ⟨g1, t, fun _ _ _ => rfl, fun _ _ => rfl⟩
      · exact ⟨g3, t, fun a h0 h5 => by rw [e, up_obf h0]; funext b; unfold cpyH; rw [if_neg (fun z => h5 z.1)], fun b hb => by rw [e, up_ne (fun z => hb z.2)]; unfold cpyH; rw [if_neg (by omega)]⟩
      · exact ⟨g1, t, fun _ _ _ => rfl, fun _ _ => rfl⟩
    obtain ⟨g3, tf, l1, l2⟩ := left
    have g3o : ∀ a, a ≠ 2 → a ≠ 6 → a ≠ 7 → ¬ (13 ≤ a ∧ a ≤ 20) → g3 a = h a := fun a h1 h2 h3 h4 => by
      rw [tf.1 a h1 h2 h3 (by omega) (by omega) (by omega) (by omega) (by omega)]; exact PRH_o h1 h4
    have g1o : ∀ a b, ¬ EXC a b → a ≠ 5 → ¬ (a = 0 ∧ b = 7) → g1 a b = h a b := fun a b hn h5 h07 => by
      unfold EXC at hn
      by_cases h0 : a = 0
      · subst h0
        rw [l2 b (by omega), g3o 0 (by omega) (by omega) (by omega) (by omega)]
      · rw [l1 a h0 h5, g3o a (by omega) (by omega) (by omega) (by omega)]
    generalize hgg : up g1 44 0 0 = gg
    have ggo : ∀ a b, ¬ EXC a b → a ≠ 5 → ¬ (a = 0 ∧ b = 7) → gg a b = h a b := fun a b hn h5 h07 => by
      rw [← hgg, up_ne (fun z => hn (Or.inl ⟨z.1, Or.inl z.2⟩))]; exact g1o a b hn h5 h07
    have ggb : ∀ a, a ≠ 44 → a ≠ 2 → a ≠ 6 → a ≠ 7 → ¬ (13 ≤ a ∧ a ≤ 20) → ¬ (60 ≤ a ∧ a ≤ 63) → a ≠ 5 → a ≠ 0 → gg a = h a := fun a h1 h2 h3 h4 h5 h6 h7 h8 => funext fun b => ggo a b (fun z => by unfold EXC at z; omega) h7 (by omega)
    have gg44 : ∀ b, b ≠ 0 → ¬ (18 ≤ b ∧ b ≤ 28) → gg 44 b = h 44 b := fun b h1 h2 => ggo 44 b (fun z => by unfold EXC at z; omega) (by omega) (by omega)
    have sr : SR h gg := ⟨fun k hk => ggb k (by omega) (by omega) (by omega) (by omega) (by omega) (by omega) (by omega) (by omega), fun k hk => ggb k (by omega) (by omega) (by omega) (by omega) (by omega) (by omega) (by omega) (by omega), gg44 1 (by omega) (by omega), gg44 11 (by omega) (by omega)⟩
    have y := (HYR_h g EFH_PRH).sr sr (ggb 50 (by omega) (by omega) (by omega) (by omega) (by omega) (by omega) (by omega) (by omega))
    have v2 : PV (SPh h) gg := (PV_SPh hI r g.1.2.1.1).congr (gg44 1 (by omega) (by omega)) (fun k hk => ggb k (by omega) (by omega) (by omega) (by omega) (by omega) (by omega) (by omega) (by omega))
    have wr : ∀ p, p < (h 1 3).toNat → WR h gg p := fun p hp => (g.1.2.1.1 p hp).1.congr rfl rfl rfl (by rw [ggb 47 (by omega) (by omega) (by omega) (by omega) (by omega) (by omega) (by omega) (by omega)]) (fun k _ => by rw [ggb 48 (by omega) (by omega) (by omega) (by omega) (by omega) (by omega) (by omega) (by omega)])
    have c8 := fun d => c_X8_lie (d := d + 5) (p := i) hgg y v2 sr.1 hI r o hS hT wr (by omega) hpr hc5
    rw [show ((i : Nat) : Int) = p by omega] at c8
    have g4 : ∀ x : Hp, (∀ k, k = 7 ∨ k = 16 ∨ k = 19 ∨ k = 20 → x k = g3 k) → G4 x := fun x hx => by
      obtain ⟨t1, t2, t3, t4, t5, t6, t7⟩ := tf
      unfold G4 SCI FDI
      rw [hx 7 (by omega), hx 16 (by omega), hx 19 (by omega), hx 20 (by omega)]
      exact ⟨t4, t6, t7⟩
    have ml : ∀ x, MLg gg x → (∀ a b, ¬ EXC a b → a ≠ 5 → ¬ (a = 0 ∧ b = 7) → x a b = h a b) ∧ ∀ k, k = 7 ∨ k = 16 ∨ k = 19 ∨ k = 20 → x k = g3 k := fun x m => ⟨fun a b hn h5 h07 => by
      rw [m a b (fun z => hn (Or.inl ⟨z.1, Or.inr z.2⟩)) (by unfold EXC at hn; omega) (by unfold EXC at hn; omega) (by unfold EXC at hn; omega) (by unfold EXC at hn; omega)]
      exact ggo a b hn h5 h07, fun k hk => by rw [m.ob (by omega) (by omega) (by omega) (by omega) (by omega), ← hgg, up_obf (by omega)]; exact l1 k (by omega) (by omega)⟩
    have same : (∀ a b, g1 a b = g3 a b) → ∀ x, MLg gg x → REL x := fun e x m => by
      obtain ⟨m1, m2⟩ := ml x m
      refine ⟨g.1.congr (fun a b hn => ?_), g4 x m2⟩
      by_cases h57 : a = 5 ∨ (a = 0 ∧ b = 7)
      · rw [m a b (by omega) (by omega) (by omega) (by omega) (by omega), ← hgg, up_ne (by omega), e a b, g3o a (by omega) (by omega) (by omega) (by omega)]
      · exact m1 a b hn (by omega) (by omega)
    have hL0 : 0 < (bsR h).2.2.1 → 0 < (h 1 4).toNat := fun hb => by have := hQ1 hb; omega
    have alike : ∀ fa, 0 < (bsR h).2.2.1 → OAL (h 1 4).toNat (tlC (payT h i) (h 1 4).toNat 120 (idF fa (h 1 4).toNat)) (tlC (payT h i) (h 1 4).toNat 120 (idF (gg 62) 5)) := fun fa hb =>
      tlC_alike (hL0 hb) (fun f f2 hf => payC_alike hf) 120 _ _ (fun j hj => by unfold idF; rw [if_pos hj, if_pos (by omega)])
    have g1eq : TF (PRH h) i g1 → ∀ a b, g1 a b = g1 a b := fun _ _ _ => rfl
    rcases hc with ⟨nb, rv, t⟩ | ⟨hb, n1, rv, t⟩ | ⟨hb, n1, fa, ⟨f, g4', tl, pf, rv, t, e6, ev⟩ | ⟨tl, rv, t⟩⟩
    · have e13 : ∀ a b, g1 a b = g3 a b := fun a b => by
        by_cases h0 : a = 0 ∨ a = 5
        · have q1 : g1 a = h a := (t.1 a (by omega) (by omega) (by omega) (by omega) (by omega) (by omega) (by omega) (by omega)).trans (PRH_o (by omega) (by omega))
          rw [q1, g3o a (by omega) (by omega) (by omega) (by omega)]
        · rw [l1 a (by omega) (by omega)]
      refine ⟨_, rv, _, c8, fun r2 x hx => ?_⟩
      rcases hx with ⟨_, rx, m⟩ | ⟨hb, _⟩
      · exact ⟨rx, same e13 x m⟩
      · exact absurd hb nb
    · have e13 : ∀ a b, g1 a b = g3 a b := fun a b => by
        by_cases h0 : a = 0 ∨ a = 5
        · have q1 : g1 a = h a := (t.1 a (by omega) (by omega) (by omega) (by omega) (by omega) (by omega) (by omega) (by omega)).trans (PRH_o (by omega) (by omega))
          rw [q1, g3o a (by omega) (by omega) (by omega) (by omega)]
        · rw [l1 a (by omega) (by omega)]
      refine ⟨_, rv, _, c8, fun r2 x hx => ?_⟩
      have np : ∀ f, ¬ payT h i f := fun f z => by
        have z2 := z.2
        have : rkI (PRH h) i = rkI h i := by
          funext q
          unfold rkI
          rw [PRH_o (by omega) (by omega)]
        rw [this] at z2
        have := rkI_rng hI (p := i) (by omega) ((tlR (PRH h) i (plc h i) (h (23 + i) 3) (trN f (h 7) (h 1 4).toNat)).2.2.2 i)
        omega
      rcases hx with ⟨nb, _⟩ | ⟨_, ⟨_, rx, m⟩ | ⟨f, z, tl, _⟩⟩
      · exact absurd hb nb
      · exact ⟨rx, same e13 x m⟩
      · rw [tlC_none np] at tl; cases tl
    · refine ⟨_, rv, _, c8, fun r2 x hx => ?_⟩
      have al := alike fa hb
      have tl' : tlC (payT h i) (h 1 4).toNat 120 (idF fa (h 1 4).toNat) = some f := tl
      rw [tl'] at al
      rcases hx with ⟨nb, _⟩ | ⟨_, ⟨tn, _⟩ | ⟨f2, z, tl2, pf2, rx, m, xv⟩⟩
      · exact absurd hb nb
      · rw [tn] at al; exact al.elim
      · rw [tl2] at al
        have al2 : ∀ j, j < (h 1 4).toNat → f j = f2 j := al
        obtain ⟨m1, m2⟩ := ml z m
        have xo : ∀ c d, c ≠ 67 → ¬ (c = 44 ∧ d = 36) → x c d = z c d := fun c d h1 h2 => by rw [xv, cpF_o h1, up_ne h2]
        refine ⟨rx, g.1.told (fun c d hn h5 h0 h36 h67 => by rw [xo c d h67 h36]; exact m1 c d hn h5 h0) ?_, g4 x (fun k hk => by rw [← m2 k hk]; exact funext fun d => xo k d (by omega) (by omega))⟩
        have z05 : ∀ a b, a = 5 ∨ (a = 0 ∧ b = 7) → z a b = g1 a b := fun a b hab => by
          rw [m a b (by omega) (by omega) (by omega) (by omega) (by omega), ← hgg, up_ne (by omega)]
        have x07 : x 0 7 = ((h 1 4).toNat : Nat) := by rw [xo 0 7 (by omega) (by omega), z05 0 7 (by omega), ev, up_same]
        have x36 : x 44 36 = h 1 4 := by rw [xv, cpF_o (by decide), up_same]
        refine ⟨by rw [x07]; omega, by rw [x36, x07]; omega, fun j hj => ?_⟩
        rw [x07] at hj
        have hj2 : j < (h 1 4).toNat := by omega
        have x5 : x 5 j = f j := by
          rw [xo 5 j (by omega) (by omega), z05 5 j (by omega), ev, up_ob (by decide)]
          unfold cpyH
          rw [if_pos ⟨rfl, hj2⟩, e6]
        have x67 : x 67 j = f2 j := by rw [xv]; unfold cpF; rw [if_pos ⟨rfl, hj2⟩]
        rw [x5, x67, al2 j hj2]
        have := pf2.1 j hj2
        exact ⟨rfl, by constructor <;> omega⟩
    · have e13 : ∀ a b, g1 a b = g3 a b := fun a b => by
        by_cases h0 : a = 0 ∨ a = 5
        · have q1 : g1 a = h a := (t.1 a (by omega) (by omega) (by omega) (by omega) (by omega) (by omega) (by omega) (by omega)).trans (PRH_o (by omega) (by omega))
          rw [q1, g3o a (by omega) (by omega) (by omega) (by omega)]
        · rw [l1 a (by omega) (by omega)]
      refine ⟨_, rv, _, c8, fun r2 x hx => ?_⟩
      have al := alike fa hb
      have tl' : tlC (payT h i) (h 1 4).toNat 120 (idF fa (h 1 4).toNat) = none := tl
      rw [tl'] at al
      rcases hx with ⟨nb, _⟩ | ⟨_, ⟨_, rx, m⟩ | ⟨f2, z, tl2, _⟩⟩
      · exact absurd hb nb
      · exact ⟨rx, same e13 x m⟩
      · rw [tl2] at al; exact al.elim
  · have g' := g.t0 (v := 0)
    exact agr_fn (fun d => c_X7_lie_N (d := d + 6) hI hp ok) (fun d => c_X8_lie_N (d := d + 18) rfl g'.1.1.1 g'.1.1.2.1 hp (by
      rw [prF_t0]
      exact ok)) g'
