/-! calls that change one thing of the roll -/
theorem G2.congr2 {h x : Hp} (hI : RI h) (g : G2 h) (e13 : x 1 3 = h 1 3) (e14 : x 1 4 = h 1 4) (e2 : ∀ p, p < 8 → x (23 + p) 2 = h (23 + p) 2 ∧ x (23 + p) 3 = h (23 + p) 3 ∧ x (31 + p) = h (31 + p)) (e47 : x 47 = h 47) (e48 : x 48 = h 48) (e49 : x 49 = h 49) : G2 x := by
  have hn := hI.n
  refine ⟨fun p hp => ?_, fun p hp => ?_⟩
  · rw [e13] at hp
    obtain ⟨w1, w2⟩ := g.1 p hp
    obtain ⟨a, a3, b⟩ := e2 p (by omega)
    exact ⟨w1.congr e14 b a (by rw [e47]) (fun k _ => by rw [e48]), by rw [e49, a3]; exact w2⟩
  · obtain ⟨a, _, b⟩ := e2 p hp
    unfold WI
    rw [a, b]
    exact g.2 p hp
theorem G5.congr2 {h x : Hp} (g : G5 h) (e13 : x 1 3 = h 1 3) (e14 : x 1 4 = h 1 4) (e3 : x 3 = h 3) (e44 : x 44 31 = h 44 31) (ek : ∀ k, k = 21 ∨ k = 22 ∨ k = 64 ∨ k = 65 ∨ k = 66 → x k = h k) (es : ∀ p, p < 8 → x (23 + p) 3 = h (23 + p) 3) : G5 x := by
  obtain ⟨g1, g2, g3, g4, g5⟩ := g
  refine ⟨by rw [e3]; exact g1, by rw [e44, e3]; exact g2, fun y p hy hp => ?_, fun i hi => by rw [ek 65 (by omega)]; exact g4 i hi, fun p hp => ?_⟩
  · rw [e3] at hy
    unfold YR
    rw [e13, e14, ek 21 (by omega), ek 22 (by omega), ek 64 (by omega), ek 65 (by omega), ek 66 (by omega)]
    exact g3 y p hy hp
  · rw [es p hp, e3, show scF x p = scF h p from by unfold scF; rw [ek 22 (by omega)]]
    exact g5 p hp
theorem G3.congr2 {h x : Hp} (g : G3 h) (e13 : x 1 3 = h 1 3) (e14 : x 1 4 = h 1 4) (e4 : x 4 = h 4) (e50 : x 50 = h 50) : G3 x := by
  unfold G3 PQ at g ⊢
  rw [e13, e14, e4, e50]
  exact g
theorem RI_pu {h : Hp} {p j : Nat} {v : Int} (hI : RI h) (hp : p < 8) (ok : (j = 6 ∧ (v = 0 ∨ v = 1)) ∨ ((j = 4 ∨ j = 5) ∧ 0 ≤ v ∧ v ≤ 255)) : RI (up h (23 + p) j v) := by
  obtain ⟨a1, a2, a3, a4, a5⟩ := hI
  refine ⟨by rw [up_ob (by omega)]; exact a1, by rw [up_ob (by omega)]; exact a2, fun p' hp' => ?_, fun q hq => ?_, fun i hi => by rw [up_ob (by omega)]; exact a5 i hi⟩
  · have h3 := a3 p' hp'
    unfold PUOK at h3 ⊢
    rw [up_obf (show 31 + p' ≠ 23 + p by omega)]
    by_cases e : p' = p
    · subst e
      obtain ⟨b1, b2, b3, b4, b5, b6, b7⟩ := h3
      rw [up_ne (show ¬ (23 + p' = 23 + p' ∧ 1 = j) by omega), up_ne (show ¬ (23 + p' = 23 + p' ∧ 2 = j) by omega), up_ne (show ¬ (23 + p' = 23 + p' ∧ 3 = j) by omega)]
      refine ⟨b1, b2, b3, ?_, ?_, ?_, b7⟩
      · by_cases z : j = 4
        · subst z; rw [up_same]; omega
        · rw [up_ne (by omega)]; exact b4
      · by_cases z : j = 5
        · subst z; rw [up_same]; omega
        · rw [up_ne (by omega)]; exact b5
      · by_cases z : j = 6
        · subst z; rw [up_same]; omega
        · rw [up_ne (by omega)]; exact b6
    · rw [up_obf (show 23 + p' ≠ 23 + p by omega)]
      exact h3
  · have := a4 q hq
    unfold PROK at this ⊢
    rw [up_obf (show 39 + q ≠ 23 + p by omega)]
    exact this
theorem RI_q5 {h : Hp} {p : Nat} {v : Int} (hI : RI h) (hp : p < 5) (ok : v = 0 ∨ v = 1) : RI (up h (39 + p) 5 v) := by
  obtain ⟨a1, a2, a3, a4, a5⟩ := hI
  refine ⟨by rw [up_ob (by omega)]; exact a1, by rw [up_ob (by omega)]; exact a2, fun p' hp' => ?_, fun q hq => ?_, fun i hi => by rw [up_ob (by omega)]; exact a5 i hi⟩
  · have h3 := a3 p' hp'
    unfold PUOK at h3 ⊢
    rw [up_obf (show 31 + p' ≠ 39 + p by omega), up_obf (show 23 + p' ≠ 39 + p by omega)]
    exact h3
  · have h3 := a4 q hq
    unfold PROK at h3 ⊢
    by_cases e : q = p
    · subst e
      rw [up_same, up_ne (show ¬ (39 + q = 39 + q ∧ 0 = 5) by omega), up_ne (show ¬ (39 + q = 39 + q ∧ 1 = 5) by omega), up_ne (show ¬ (39 + q = 39 + q ∧ 2 = 5) by omega), up_ne (show ¬ (39 + q = 39 + q ∧ 3 = 5) by omega), up_ne (show ¬ (39 + q = 39 + q ∧ 4 = 5) by omega)]
      exact ⟨h3.1, h3.2.1, h3.2.2.1, h3.2.2.2.1, h3.2.2.2.2.1, ok, h3.2.2.2.2.2.2⟩
    · rw [up_obf (show 39 + q ≠ 39 + p by omega)]
      exact h3
theorem ag_put {h : Hp} (g : REL h) {p q : Int} (hp : rng p) (hq : rng q) : AGR MX7_put MX8_put [mI p, mI q] h := by
  have hI := g.1.1.1
  have hn := hI.n
  have hm := hI.q
  have en : h 44 1 = h 1 3 := g.1.1.2.1.n
  have em : h 44 11 = h 1 4 := g.1.1.2.1.q
  by_cases ok : inN h p ∧ (q = -1 ∨ inQ h q)
  · obtain ⟨⟨p1, p2⟩, q1⟩ := ok
    have c8 := fun d => c_X8_put (d := d + 18) (h := up h 4 p.toNat q) (g := up (up h 4 p.toNat q) 44 0 0) (p := p.toNat) (q := q) rfl (by rw [up_ne (by omega), up_ob (by decide)]; omega) (by rw [up_ne (by omega), up_ob (by decide)]; omega) (by rw [up_ne (by omega), up_ob (by decide)]; omega) hq (by rw [up_ne (by omega), up_ob (by decide), em]; exact q1)
    rw [show ((p.toNat : Nat) : Int) = p by omega] at c8
    have q2 : -1 ≤ q ∧ q < h 1 4 := by
      rcases q1 with q1 | ⟨q1, q2⟩
      · omega
      · omega
    generalize hx : up (up (up h 4 p.toNat q) 44 0 0) 50 p.toNat q = x at c8
    have xo : ∀ a b, ¬ (a = 4 ∧ b = p.toNat) → ¬ (a = 44 ∧ b = 0) → ¬ (a = 50 ∧ b = p.toNat) → x a b = h a b := fun a b h1 h2 h3 => by
      rw [← hx, up_ne h3, up_ne h2, up_ne h1]
    have xob : ∀ a, a ≠ 4 → a ≠ 44 → a ≠ 50 → x a = h a := fun a h1 h2 h3 => funext fun b => xo a b (fun z => h1 z.1) (fun z => h2 z.1) (fun z => h3 z.1)
    have sr : SR h x := ⟨fun k hk => xob k (by omega) (by omega) (by omega), fun k hk => xob k (by omega) (by omega) (by omega), xo 44 1 (by omega) (by omega) (by omega), xo 44 11 (by omega) (by omega) (by omega)⟩
    have e1 := xob 1 (by omega) (by omega) (by omega)
    refine agr_fn (fun d => c_X7_put (d := d + 19) hI ⟨p1, p2⟩ hq q1) c8 ⟨⟨g.1.1.sr sr, g.1.2.1.congr hI e1 (fun p hp => ⟨xob _ (by omega) (by omega) (by omega), xob _ (by omega) (by omega) (by omega)⟩) (xob 47 (by omega) (by omega) (by omega)) (xob 48 (by omega) (by omega) (by omega)) (xob 49 (by omega) (by omega) (by omega)), ?_, g.1.2.2.2.1.congr e1 (xob 3 (by omega) (by omega) (by omega)) (xo 44 31 (by omega) (by omega) (by omega)) (fun k hk => xob k (by omega) (by omega) (by omega)) (fun p hp => xo _ _ (by omega) (by omega) (by omega)), g.1.2.2.2.2.congr (xo 0 7 (by omega) (by omega) (by omega)) (xo 44 36 (by omega) (by omega) (by omega)) (xob 5 (by omega) (by omega) (by omega)) (xob 67 (by omega) (by omega) (by omega))⟩, g.2.congr (fun k hk => xob k (by omega) (by omega) (by omega))⟩
    obtain ⟨g3, g3b⟩ := g.1.2.2.1
    refine ⟨fun i hi => ?_, fun i h1 h2 => ?_⟩
    · rw [e1] at hi ⊢
      by_cases z : i = p.toNat
      · have x4 : x 4 i = q := by rw [← hx, up_ob (by decide), up_ob (by decide), z, up_same]
        have x50 : x 50 i = q := by rw [← hx, z, up_same]
        rw [x4, x50]
        exact ⟨rfl, q2⟩
      · rw [xo 4 i (by omega) (by omega) (by omega), xo 50 i (by omega) (by omega) (by omega)]
        exact g3 i hi
    · rw [e1] at h1
      rw [xo 4 i (by omega) (by omega) (by omega)]
      exact g3b i h1 h2
  · have g' := g.t0 (v := 0)
    exact agr_fn (fun d => c_X7_put_N (d := d + 19) hI hp hq ok) (fun d => c_X8_put_N (d := d + 18) rfl (by rw [up_ne (by omega)]; omega) (by rw [up_ne (by omega)]; omega) hp hq (by rw [up_ne (by omega), up_ne (by omega), en, em]; exact ok)) g'
theorem ag_here {h : Hp} (g : REL h) {p v : Int} (hp : rng p) (hv : v = 0 ∨ v = 1) : AGR MX7_here MX8_here [mI p, mI v] h := by
  obtain ⟨hI, r, hl, ap, o, f1, f2, f3⟩ := g.1.1
  have hn := hI.n
  have hm := hI.q
  have en : h 44 1 = h 1 3 := r.n
  by_cases ok : inN h p
  · obtain ⟨p1, p2⟩ := ok
    generalize hpn : p.toNat = i
    have hi : (i : Int) = p := by omega
    have c8 := fun d => c_X8_here (d := d + 18) (h := up h (23 + i) 6 v) (g := up (up h (23 + i) 6 v) 44 0 0) (a := i) (x := v) rfl (by rw [up_ne (by omega), up_ob (by omega)]; omega) (by rw [up_ne (by omega), up_ob (by omega)]; omega) hv
    have c7 := fun d => c_X7_here (d := d + 18) hI (a := p) (x := v) ⟨p1, p2⟩ hv
    rw [hpn] at c7
    rw [hi] at c8
    refine agr_fn c7 c8 ?_
    generalize hx : up (up (up h (23 + i) 6 v) 44 0 0) 46 i v = x
    have xo : ∀ a b, ¬ (a = 23 + i ∧ b = 6) → ¬ (a = 44 ∧ b = 0) → ¬ (a = 46 ∧ b = i) → x a b = h a b := fun a b h1 h2 h3 => by
      rw [← hx, up_ne h3, up_ne h2, up_ne h1]
    have xob : ∀ a, a ≠ 23 + i → a ≠ 44 → a ≠ 46 → x a = h a := fun a h1 h2 h3 => funext fun b => xo a b (fun z => h1 z.1) (fun z => h2 z.1) (fun z => h3 z.1)
    have x6 : x (23 + i) 6 = v := by rw [← hx, up_ob (by omega), up_ob (by omega), up_same]
    have x46 : x 46 i = v := by rw [← hx, up_same]
    have e1 := xob 1 (by omega) (by omega) (by omega)
    have xI : RI x := (RI_pu hI (by omega) (Or.inl ⟨rfl, hv⟩) : RI (up h (23 + i) 6 v)).congr (fun k hk => by
      rw [← hx]; exact (up_obf (by omega)).trans (up_obf (by omega)))
    have xf : ∀ a b, a < 8 → frB x a b = frB h a b ∧ apB x a b = apB h a b := fun a b ha => by
      unfold frB apB
      rw [xo (23 + a) 4 (by omega) (by omega) (by omega), xo (23 + a) 5 (by omega) (by omega) (by omega)]; exact ⟨rfl, rfl⟩
    refine ⟨⟨⟨xI, ?_, ?_, ?_, ?_, ?_, ?_, ?_⟩, g.1.2.1.congr2 hI (by rw [e1]) (by rw [e1]) (fun q hq => ⟨xo _ _ (by omega) (by omega) (by omega), xo _ _ (by omega) (by omega) (by omega), xob _ (by omega) (by omega) (by omega)⟩) (xob 47 (by omega) (by omega) (by omega)) (xob 48 (by omega) (by omega) (by omega)) (xob 49 (by omega) (by omega) (by omega)), g.1.2.2.1.congr e1 (xob 4 (by omega) (by omega) (by omega)) (xob 50 (by omega) (by omega) (by omega)), g.1.2.2.2.1.congr e1 (xob 3 (by omega) (by omega) (by omega)) (xo 44 31 (by omega) (by omega) (by omega)) (fun k hk => xob k (by omega) (by omega) (by omega)) (fun q hq => xo _ _ (by omega) (by omega) (by omega)), g.1.2.2.2.2.congr (xo 0 7 (by omega) (by omega) (by omega)) (xo 44 36 (by omega) (by omega) (by omega)) (xob 5 (by omega) (by omega) (by omega)) (xob 67 (by omega) (by omega) (by omega))⟩, g.2.congr (fun k hk => xob k (by omega) (by omega) (by omega))⟩
    · obtain ⟨r1, r2, r3, r4, r5, r6⟩ := r
      refine ⟨by rw [xo 44 1 (by omega) (by omega) (by omega), e1]; exact r1, by rw [xo 44 11 (by omega) (by omega) (by omega), e1]; exact r2, fun q hq => ?_, fun a b ha hb => ?_, fun q hq => ?_, fun j hj => ?_⟩
      · rw [e1] at hq
        rw [xob 45 (by omega) (by omega) (by omega), xo (23 + q) 1 (by omega) (by omega) (by omega)]
        refine ⟨(r3 q hq).1, ?_⟩
        by_cases z : q = i
        · rw [z, x46, x6]
        · rw [xo 46 q (by omega) (by omega) (by omega), xo (23 + q) 6 (by omega) (by omega) (by omega)]; exact (r3 q hq).2
      · rw [e1] at ha hb
        rw [(xf a b (by omega)).1, (xf a b (by omega)).2, (xf b a (by omega)).1, (xf b a (by omega)).2, xob 51 (by omega) (by omega) (by omega), xob 52 (by omega) (by omega) (by omega)]
        exact r4 a b ha hb
      · rw [e1] at hq
        rw [xob 54 (by omega) (by omega) (by omega), xob 55 (by omega) (by omega) (by omega), xob 56 (by omega) (by omega) (by omega), xob 57 (by omega) (by omega) (by omega), xob 58 (by omega) (by omega) (by omega), xob 59 (by omega) (by omega) (by omega), xob (39 + q) (by omega) (by omega) (by omega)]
        exact r5 q hq
      · rw [e1] at hj
        rw [xob 53 (by omega) (by omega) (by omega), xob 10 (by omega) (by omega) (by omega), e1]
        exact r6 j hj
    · intro q hq h3
      rw [e1] at hq
      rw [xob (39 + q) (by omega) (by omega) (by omega)] at h3 ⊢
      rw [e1]
      exact hl q hq h3
    · intro a ha
      rw [e1] at ha
      rw [(xf a a (by omega)).2]
      exact ap a ha
    · unfold OPM
      rw [e1, xob 10 (by omega) (by omega) (by omega)]
      exact o
    · intro q h1 h2
      rw [e1] at h1
      rw [xob (23 + q) (by omega) (by omega) (by omega), xob (31 + q) (by omega) (by omega) (by omega)]
      exact f1 q h1 h2
    · intro a b ha hb hab
      rw [e1] at hab
      rw [(xf a b ha).1, (xf a b ha).2, xob 51 (by omega) (by omega) (by omega), xob 52 (by omega) (by omega) (by omega)]
      exact f2 a b ha hb hab
    · intro q h1 h2
      rw [e1] at h1
      rw [xob (39 + q) (by omega) (by omega) (by omega)]
      exact f3 q h1 h2
  · exact agr_fn (fun d => c_X7_here_N (d := d + 18) hI hp ok) (fun d => c_X8_here_N (d := d + 18) rfl (by rw [up_ne (by omega)]; omega) hp (by rw [up_ne (by omega), en]; exact ok)) (g.t0 (v := 0))
theorem ag_offered {h : Hp} (g : REL h) {p v : Int} (hp : rng p) (hv : v = 0 ∨ v = 1) : AGR MX7_offered MX8_offered [mI p, mI v] h := by
  obtain ⟨hI, r, hl, ap, o, f1, f2, f3⟩ := g.1.1
  have hn := hI.n
  have hm := hI.q
  have em : h 44 11 = h 1 4 := r.q
  by_cases ok : inQ h p
  · obtain ⟨p1, p2⟩ := ok
    generalize hpn : p.toNat = i
    have hi : (i : Int) = p := by omega
    have c8 := fun d => c_X8_offered (d := d + 18) (h := up h (39 + i) 5 v) (g := up (up h (39 + i) 5 v) 44 0 0) (a := i) (x := v) rfl (by rw [up_ne (by omega), up_ob (by omega)]; omega) (by rw [up_ne (by omega), up_ob (by omega)]; omega) hv
    have c7 := fun d => c_X7_offered (d := d + 18) hI (a := p) (x := v) ⟨p1, p2⟩ hv
    rw [hpn] at c7
    rw [hi] at c8
    refine agr_fn c7 c8 ?_
    generalize hx : up (up (up h (39 + i) 5 v) 44 0 0) 59 i v = x
    have xo : ∀ a b, ¬ (a = 39 + i ∧ b = 5) → ¬ (a = 44 ∧ b = 0) → ¬ (a = 59 ∧ b = i) → x a b = h a b := fun a b h1 h2 h3 => by
      rw [← hx, up_ne h3, up_ne h2, up_ne h1]
    have xob : ∀ a, a ≠ 39 + i → a ≠ 44 → a ≠ 59 → x a = h a := fun a h1 h2 h3 => funext fun b => xo a b (fun z => h1 z.1) (fun z => h2 z.1) (fun z => h3 z.1)
    have x5 : x (39 + i) 5 = v := by rw [← hx, up_ob (by omega), up_ob (by omega), up_same]
    have x59 : x 59 i = v := by rw [← hx, up_same]
    have e1 := xob 1 (by omega) (by omega) (by omega)
    have xI : RI x := (RI_q5 hI (by omega) hv : RI (up h (39 + i) 5 v)).congr (fun k hk => by
      rw [← hx]; exact (up_obf (by omega)).trans (up_obf (by omega)))
    have xf : ∀ a b, a < 8 → frB x a b = frB h a b ∧ apB x a b = apB h a b := fun a b ha => by
      unfold frB apB
      rw [xob (23 + a) (by omega) (by omega) (by omega)]; exact ⟨rfl, rfl⟩
    refine ⟨⟨⟨xI, ?_, ?_, ?_, ?_, ?_, ?_, ?_⟩, g.1.2.1.congr2 hI (by rw [e1]) (by rw [e1]) (fun q hq => ⟨xo _ _ (by omega) (by omega) (by omega), xo _ _ (by omega) (by omega) (by omega), xob _ (by omega) (by omega) (by omega)⟩) (xob 47 (by omega) (by omega) (by omega)) (xob 48 (by omega) (by omega) (by omega)) (xob 49 (by omega) (by omega) (by omega)), g.1.2.2.1.congr e1 (xob 4 (by omega) (by omega) (by omega)) (xob 50 (by omega) (by omega) (by omega)), g.1.2.2.2.1.congr e1 (xob 3 (by omega) (by omega) (by omega)) (xo 44 31 (by omega) (by omega) (by omega)) (fun k hk => xob k (by omega) (by omega) (by omega)) (fun q hq => xo _ _ (by omega) (by omega) (by omega)), g.1.2.2.2.2.congr (xo 0 7 (by omega) (by omega) (by omega)) (xo 44 36 (by omega) (by omega) (by omega)) (xob 5 (by omega) (by omega) (by omega)) (xob 67 (by omega) (by omega) (by omega))⟩, g.2.congr (fun k hk => xob k (by omega) (by omega) (by omega))⟩
    · obtain ⟨r1, r2, r3, r4, r5, r6⟩ := r
      refine ⟨by rw [xo 44 1 (by omega) (by omega) (by omega), e1]; exact r1, by rw [xo 44 11 (by omega) (by omega) (by omega), e1]; exact r2, fun q hq => ?_, fun a b ha hb => ?_, fun q hq => ?_, fun j hj => ?_⟩
      · rw [e1] at hq
        rw [xob 45 (by omega) (by omega) (by omega), xob 46 (by omega) (by omega) (by omega), xob (23 + q) (by omega) (by omega) (by omega)]
        exact r3 q hq
      · rw [e1] at ha hb
        rw [(xf a b (by omega)).1, (xf a b (by omega)).2, (xf b a (by omega)).1, (xf b a (by omega)).2, xob 51 (by omega) (by omega) (by omega), xob 52 (by omega) (by omega) (by omega)]
        exact r4 a b ha hb
      · rw [e1] at hq
        rw [xob 54 (by omega) (by omega) (by omega), xob 55 (by omega) (by omega) (by omega), xob 56 (by omega) (by omega) (by omega), xob 57 (by omega) (by omega) (by omega), xob 58 (by omega) (by omega) (by omega), xo (39 + q) 0 (by omega) (by omega) (by omega), xo (39 + q) 1 (by omega) (by omega) (by omega), xo (39 + q) 2 (by omega) (by omega) (by omega), xo (39 + q) 3 (by omega) (by omega) (by omega), xo (39 + q) 4 (by omega) (by omega) (by omega)]
        obtain ⟨s1, s2, s3, s4, s5, s6⟩ := r5 q hq
        refine ⟨s1, s2, s3, s4, s5, ?_⟩
        by_cases z : q = i
        · rw [z, x59, x5]
        · rw [xo 59 q (by omega) (by omega) (by omega), xo (39 + q) 5 (by omega) (by omega) (by omega)]; exact s6
      · rw [e1] at hj
        rw [xob 53 (by omega) (by omega) (by omega), xob 10 (by omega) (by omega) (by omega), e1]
        exact r6 j hj
    · intro q hq h3
      rw [e1] at hq
      rw [xo (39 + q) 0 (by omega) (by omega) (by omega)] at h3
      rw [xo (39 + q) 4 (by omega) (by omega) (by omega), e1]
      exact hl q hq h3
    · intro a ha
      rw [e1] at ha
      rw [(xf a a (by omega)).2]
      exact ap a ha
    · unfold OPM
      rw [e1, xob 10 (by omega) (by omega) (by omega)]
      exact o
    · intro q h1 h2
      rw [e1] at h1
      rw [xob (23 + q) (by omega) (by omega) (by omega), xob (31 + q) (by omega) (by omega) (by omega)]
      exact f1 q h1 h2
    · intro a b ha hb hab
      rw [e1] at hab
      rw [(xf a b ha).1, (xf a b ha).2, xob 51 (by omega) (by omega) (by omega), xob 52 (by omega) (by omega) (by omega)]
      exact f2 a b ha hb hab
    · intro q h1 h2
      rw [e1] at h1
      rw [xo (39 + q) 5 (by omega) (by omega) (by omega)]
      exact f3 q h1 h2
  · exact agr_fn (fun d => c_X7_offered_N (d := d + 18) hI hp ok) (fun d => c_X8_offered_N (d := d + 18) rfl (by rw [up_ne (by omega)]; omega) hp (by rw [up_ne (by omega), em]; exact ok)) (g.t0 (v := 0))
