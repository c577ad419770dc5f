/-! pupil, project -/
theorem ag_pupil {h : Hp} (g : REL h) {k : Int} (hk : rng k) : AGR MX7_pupil MX8_pupil [mI k] h := by
  obtain ⟨hI, r, hl, ap, o, f1, f2, f3⟩ := g.1.1
  have hn := hI.n
  have hm := hI.q
  have en : h 44 1 = h 1 3 := r.n
  by_cases bad : k < 0 ∨ 255 < k ∨ h 1 3 = 8
  · exact agr_fn (fun d => c_X7_pupil_N (d := d + 19) hI hk bad) (fun d => c_X8_pupil_N (d := d + 19) rfl (by rw [up_ne (by omega)]; omega) hk (by rw [up_ne (by omega), en]; exact bad)) (g.t0 (v := 0))
  · have eg : up (addP h k) 44 0 0 44 1 = h 1 3 := by rw [up_ne (by omega)]; unfold addP; rw [up_ob (by omega), up_ob (by omega), up_ob (by omega), en]
    have c7 := fun d => c_X7_pupil (d := d + 19) hI (k := k) (by omega) (by omega)
    have c8 := fun d => c_X8_pupil (d := d + 19) (h := addP h k) (g := up (addP h k) 44 0 0) (k := k) rfl (by rw [eg]; omega) (by omega)
    rw [eg] at c8
    refine agr_fn c7 c8 ?_
    generalize hx : mPup (up (addP h k) 44 0 0) k = x
    unfold mPup at hx
    rw [eg] at hx
    unfold addP at hx
    generalize hN : (h 1 3).toNat = n at hx
    have Hn : (n : Int) = h 1 3 := by omega
    have n8 : n < 8 := by omega
    have xo : ∀ a b, ¬ (a = 23 + n ∧ b = 1) → ¬ (a = 10 ∧ b = n) → ¬ (a = 1 ∧ b = 3) → ¬ (a = 44 ∧ b < 2) → ¬ (a = 45 ∧ b = n) → ¬ (a = 46 ∧ b = n) → ¬ (a = 47 ∧ b = n) → ¬ (a = 49 ∧ b = n) → ¬ (a = 50 ∧ b = n) → ¬ (a = 53 ∧ b = n) → x a b = h a b := fun a b h1 h2 h3 h4 h5 h6 h7 h8 h9 h10 => by
      rw [← hx, up_ne (by omega), up_ne (by omega), up_ne (by omega), up_ne (by omega), up_ne (by omega), up_ne (by omega), up_ne (by omega), up_ne (by omega), up_ne (by omega), up_ne (by omega), up_ne (by omega)]
    have xob : ∀ a, a ≠ 23 + n → a ≠ 10 → a ≠ 1 → a ≠ 44 → a ≠ 45 → a ≠ 46 → a ≠ 47 → a ≠ 49 → a ≠ 50 → a ≠ 53 → x a = h a := fun a h1 h2 h3 h4 h5 h6 h7 h8 h9 h10 => funext fun b => xo a b (fun z => h1 z.1) (fun z => h2 z.1) (fun z => h3 z.1) (fun z => h4 z.1) (fun z => h5 z.1) (fun z => h6 z.1) (fun z => h7 z.1) (fun z => h8 z.1) (fun z => h9 z.1) (fun z => h10 z.1)
    have x13 : x 1 3 = h 1 3 + 1 := by rw [← hx, up_ob (by omega), up_ob (by omega), up_ob (by omega), up_ob (by omega), up_ob (by omega), up_ob (by omega), up_ob (by omega), up_ob (by omega), up_same]
    have x14 : x 1 4 = h 1 4 := xo 1 4 (by omega) (by omega) (by omega) (by omega) (by omega) (by omega) (by omega) (by omega) (by omega) (by omega)
    have x231 : x (23 + n) 1 = k := by rw [← hx, up_ob (by omega), up_ob (by omega), up_ob (by omega), up_ob (by omega), up_ob (by omega), up_ob (by omega), up_ob (by omega), up_ob (by omega), up_ob (by omega), up_ob (by omega), up_same]
    have x10 : x 10 n = h 1 3 := by rw [← hx, up_ob (by omega), up_ob (by omega), up_ob (by omega), up_ob (by omega), up_ob (by omega), up_ob (by omega), up_ob (by omega), up_ob (by omega), up_ob (by omega), up_same]
    have x441 : x 44 1 = h 1 3 + 1 := by rw [← hx, up_ob (by omega), up_ob (by omega), up_ob (by omega), up_ob (by omega), up_ob (by omega), up_ob (by omega), up_same]
    have x45 : x 45 n = k := by rw [← hx, up_ob (by omega), up_ob (by omega), up_ob (by omega), up_ob (by omega), up_ob (by omega), up_same]
    have x46 : x 46 n = 1 := by rw [← hx, up_ob (by omega), up_ob (by omega), up_ob (by omega), up_ob (by omega), up_same]
    have x47 : x 47 n = 0 := by rw [← hx, up_ob (by omega), up_ob (by omega), up_ob (by omega), up_same]
    have x49 : x 49 n = 0 := by rw [← hx, up_ob (by omega), up_ob (by omega), up_same]
    have x50 : x 50 n = -1 := by rw [← hx, up_ob (by omega), up_same]
    have x53 : x 53 n = h 1 3 := by rw [← hx, up_same]
    have fn := f1 n (by omega) n8
    have xs : ∀ p b, p < 8 → b ≠ 1 → x (23 + p) b = h (23 + p) b := fun p b hp hb => xo _ _ (by omega) (by omega) (by omega) (by omega) (by omega) (by omega) (by omega) (by omega) (by omega) (by omega)
    have x31 : ∀ p, p < 8 → x (31 + p) = h (31 + p) := fun p hp => xob _ (by omega) (by omega) (by omega) (by omega) (by omega) (by omega) (by omega) (by omega) (by omega) (by omega)
    have x39 : ∀ p, p < 5 → x (39 + p) = h (39 + p) := fun p hp => xob _ (by omega) (by omega) (by omega) (by omega) (by omega) (by omega) (by omega) (by omega) (by omega) (by omega)
    have x51 : ∀ k, k = 48 ∨ k = 51 ∨ k = 52 ∨ (54 ≤ k ∧ k < 60) ∨ k = 4 ∨ k = 21 ∨ k = 22 ∨ k = 64 ∨ k = 65 ∨ k = 66 ∨ k = 5 ∨ k = 67 ∨ k = 0 ∨ k = 3 ∨ k = 7 ∨ k = 16 ∨ k = 19 ∨ k = 20 → x k = h k := fun k hk => xob _ (by omega) (by omega) (by omega) (by omega) (by omega) (by omega) (by omega) (by omega) (by omega) (by omega)
    have xf : ∀ a b, a < 8 → frB x a b = frB h a b ∧ apB x a b = apB h a b := fun a b ha => by
      unfold frB apB; rw [xs a 4 ha (by decide), xs a 5 ha (by decide)]; exact ⟨rfl, rfl⟩
    have tn : (x 1 3).toNat = n + 1 := by rw [x13]; omega
    have t4 : (x 1 4).toNat = (h 1 4).toNat := by rw [x14]
    refine ⟨⟨⟨?_, ?_, ?_, ?_, ?_, ?_, ?_, ?_⟩, ⟨?_, ?_⟩, ⟨?_, ?_⟩, ⟨?_, ?_, ?_, ?_, ?_⟩, g.1.2.2.2.2.congr (by rw [x51 0 (by omega)]) (xo 44 36 (by omega) (by omega) (by omega) (by omega) (by omega) (by omega) (by omega) (by omega) (by omega) (by omega)) (x51 5 (by omega)) (x51 67 (by omega))⟩, g.2.congr (fun k hk => x51 k (by omega))⟩
    · obtain ⟨a1, a2, a3, a4, a5⟩ := id hI
      refine ⟨by rw [x13]; omega, by rw [x14]; exact a2, fun p hp => ?_, fun q hq => ?_, fun i hi => ?_⟩
      · have b := a3 p hp
        unfold PUOK at b ⊢
        rw [xs p 2 hp (by decide), xs p 3 hp (by decide), xs p 4 hp (by decide), xs p 5 hp (by decide), xs p 6 hp (by decide), x31 p hp]
        refine ⟨?_, b.2⟩
        by_cases z : p = n
        · rw [z, x231]; omega
        · rw [xo (23 + p) 1 (by omega) (by omega) (by omega) (by omega) (by omega) (by omega) (by omega) (by omega) (by omega) (by omega)]; exact b.1
      · unfold PROK
        rw [x39 q hq]
        exact a4 q hq
      · by_cases z : i = n
        · rw [z, x10]; constructor <;> omega
        · rw [xo 10 i (by omega) (by omega) (by omega) (by omega) (by omega) (by omega) (by omega) (by omega) (by omega) (by omega)]; exact a5 i hi
    · obtain ⟨r1, r2, r3, r4, r5, r6⟩ := r
      refine ⟨by rw [x441, x13], by rw [x14, xo 44 11 (by omega) (by omega) (by omega) (by omega) (by omega) (by omega) (by omega) (by omega) (by omega) (by omega)]; exact r2, fun q hq => ?_, fun a b ha hb => ?_, fun q hq => ?_, fun j hj => ?_⟩
      · rw [tn] at hq
        by_cases z : q = n
        · subst z
          rw [x45, x231, x46, xs q 6 n8 (by decide), fn.2.2.2.2.1]; exact ⟨rfl, rfl⟩
        · rw [xo 45 q (by omega) (by omega) (by omega) (by omega) (by omega) (by omega) (by omega) (by omega) (by omega) (by omega), xo 46 q (by omega) (by omega) (by omega) (by omega) (by omega) (by omega) (by omega) (by omega) (by omega) (by omega), xo (23 + q) 1 (by omega) (by omega) (by omega) (by omega) (by omega) (by omega) (by omega) (by omega) (by omega) (by omega), xs q 6 (by omega) (by decide)]
          exact r3 q (by omega)
      · rw [tn] at ha hb
        rw [(xf a b (by omega)).1, (xf a b (by omega)).2, (xf b a (by omega)).1, (xf b a (by omega)).2, x51 51 (by omega), x51 52 (by omega)]
        by_cases z : a = n ∨ b = n
        · obtain ⟨y1, y2, y3, y4⟩ := f2 a b (by omega) (by omega) (by omega)
          obtain ⟨z1, z2, z3, z4⟩ := f2 b a (by omega) (by omega) (by omega)
          rw [y1, y2, y3, y4, z3, z4]
          exact ⟨⟨fun q => absurd q (by decide), fun q => absurd q (by decide)⟩, ⟨fun q => absurd q (by decide), fun q => absurd q (by decide)⟩, Or.inl rfl, Or.inl rfl, rfl, rfl⟩
        · exact r4 a b (by omega) (by omega)
      · rw [t4] at hq
        rw [x51 54 (by omega), x51 55 (by omega), x51 56 (by omega), x51 57 (by omega), x51 58 (by omega), x51 59 (by omega), x39 q (by omega)]
        exact r5 q hq
      · rw [tn] at hj
        by_cases z : j = n
        · rw [z, x53, x10, x13]; exact ⟨rfl, by omega, by omega⟩
        · rw [xo 53 j (by omega) (by omega) (by omega) (by omega) (by omega) (by omega) (by omega) (by omega) (by omega) (by omega), xo 10 j (by omega) (by omega) (by omega) (by omega) (by omega) (by omega) (by omega) (by omega) (by omega) (by omega), x13]
          have := r6 j (by omega)
          exact ⟨this.1, by omega, by omega⟩
    · intro q hq h3
      rw [t4] at hq
      rw [x39 q (by omega)] at h3 ⊢
      rw [x13]
      have := hl q hq h3
      omega
    · intro a ha
      rw [tn] at ha
      rw [(xf a a (by omega)).2]
      by_cases z : a = n
      · exact (f2 a a (by omega) (by omega) (by omega)).2.2.2
      · exact ap a (by omega)
    · have ox : ∀ i, i < n → x 10 i = h 10 i := fun i hi => xo 10 i (by omega) (by omega) (by omega) (by omega) (by omega) (by omega) (by omega) (by omega) (by omega) (by omega)
      obtain ⟨o1, o2, o3⟩ := o
      refine ⟨fun i hi => ?_, fun p hp => ?_, fun i j hi hj e => ?_⟩
      · rw [tn] at hi
        rw [x13]
        by_cases z : i = n
        · rw [z, x10]; omega
        · rw [ox i (by omega)]; have := o1 i (by omega); omega
      · rw [tn] at hp
        by_cases z : p = n
        · exact ⟨n, by omega, by rw [x10, z]; omega⟩
        · obtain ⟨i, i1, i2⟩ := o2 p (by omega)
          exact ⟨i, by omega, by rw [ox i (by omega)]; exact i2⟩
      · rw [tn] at hi hj
        by_cases z : i = n
        · by_cases y : j = n
          · omega
          · rw [z, x10, ox j (by omega)] at e
            have := o1 j (by omega)
            omega
        · by_cases y : j = n
          · rw [y, x10, ox i (by omega)] at e
            have := o1 i (by omega)
            omega
          · rw [ox i (by omega), ox j (by omega)] at e
            exact o3 i j (by omega) (by omega) e
    · intro p h1 h2
      rw [x13] at h1
      rw [xs p 2 h2 (by decide), xs p 3 h2 (by decide), xs p 4 h2 (by decide), xs p 5 h2 (by decide), xs p 6 h2 (by decide), x31 p h2]
      exact f1 p (by omega) h2
    · intro a b ha hb hab
      rw [x13] at hab
      rw [(xf a b ha).1, (xf a b ha).2, x51 51 (by omega), x51 52 (by omega)]
      exact f2 a b ha hb (by omega)
    · intro q h1 h2
      rw [x14] at h1
      rw [x39 q h2]
      exact f3 q h1 h2
    · intro p hp
      rw [tn] at hp
      by_cases z : p = n
      · subst z
        refine ⟨⟨by rw [x47]; omega, fun k hk => by rw [x47] at hk; omega, fun j hj z => absurd ((congrFun (x31 p n8) j).trans (fn.2.2.2.2.2 j hj)) z, by rw [x47, xs p 2 n8 (by decide)]; exact fn.1.symm⟩, by rw [x49, xs p 3 n8 (by decide)]; exact fn.2.1.symm⟩
      · obtain ⟨w1, w2⟩ := g.1.2.1.1 p (by omega)
        exact ⟨w1.congr x14 (x31 p (by omega)) (xs p 2 (by omega) (by decide)) (xo 47 p (by omega) (by omega) (by omega) (by omega) (by omega) (by omega) (by omega) (by omega) (by omega) (by omega)) (fun k _ => by rw [x51 48 (by omega)]), by rw [xo 49 p (by omega) (by omega) (by omega) (by omega) (by omega) (by omega) (by omega) (by omega) (by omega) (by omega), xs p 3 (by omega) (by decide)]; exact w2⟩
    · intro p hp
      have := g.1.2.1.2 p hp
      unfold WI at this ⊢
      rw [xs p 2 hp (by decide), x31 p hp]
      exact this
    · intro p hp
      rw [tn] at hp
      rw [x51 4 (by omega), x14]
      by_cases z : p = n
      · rw [z, x50, g.1.2.2.1.2 n (by omega) n8]; omega
      · rw [xo 50 p (by omega) (by omega) (by omega) (by omega) (by omega) (by omega) (by omega) (by omega) (by omega) (by omega)]
        exact g.1.2.2.1.1 p (by omega)
    · intro p h1 h2
      rw [x13] at h1
      rw [x51 4 (by omega)]
      exact g.1.2.2.1.2 p (by omega) h2
    · rw [x51 3 (by omega)]; exact g.1.2.2.2.1.1
    · rw [x51 3 (by omega), xo 44 31 (by omega) (by omega) (by omega) (by omega) (by omega) (by omega) (by omega) (by omega) (by omega) (by omega)]; exact g.1.2.2.2.1.2.1
    · intro y p hy hp
      rw [x51 3 (by omega)] at hy
      have := g.1.2.2.2.1.2.2.1 y p hy hp
      unfold YR at this ⊢
      rw [x13, x14, x51 21 (by omega), x51 22 (by omega), x51 64 (by omega), x51 65 (by omega), x51 66 (by omega)]
      exact ⟨⟨this.1.1, by omega⟩, this.2⟩
    · rw [x51 65 (by omega)]; exact g.1.2.2.2.1.2.2.2.1
    · intro p hp
      rw [xs p 3 hp (by decide), x51 3 (by omega), show scF x p = scF h p from by unfold scF; rw [x51 22 (by omega)]]
      exact g.1.2.2.2.1.2.2.2.2 p hp
theorem WR.mono {c g c' g' : Hp} {p : Nat} (w : WR c g p) (h1 : c 1 4 ≤ c' 1 4) (h2 : c' (31 + p) = c (31 + p)) (h3 : c' (23 + p) 2 = c (23 + p) 2) (h4 : g' 47 p = g 47 p) (h5 : ∀ k, k < 5 → g' 48 (5 * p + k) = g 48 (5 * p + k)) : WR c' g' p := by
  obtain ⟨w1, w2, w3, w4⟩ := w
  unfold WR
  rw [h2, h3, h4]
  refine ⟨w1, fun k hk => ?_, fun j hj z => ?_, w4⟩
  · rw [h5 k (by omega)]
    have := w2 k hk
    exact ⟨⟨this.1.1, by omega⟩, this.2⟩
  · obtain ⟨k, k1, k2⟩ := w3 j hj z
    exact ⟨k, k1, by rw [h5 k (by omega)]; exact k2⟩
theorem ag_project {h : Hp} (g : REL h) {k l m s ld : Int} (hk : rng k) (hll : rng l) (hmm : rng m) (hs : rng s) (hld : rng ld) : AGR MX7_project MX8_project [mI k, mI l, mI m, mI s, mI ld] h := by
  obtain ⟨hI, r, hl, ap, o, f1, f2, f3⟩ := g.1.1
  have hn := hI.n
  have hm := hI.q
  have en : h 44 1 = h 1 3 := r.n
  have em : h 44 11 = h 1 4 := r.q
  by_cases ok : prjOk h k l m s ld
  · obtain ⟨k1, k2, k3, k4, k5, k6, k7⟩ := id ok
    have eg : up (newPr h k l m s ld) 44 0 0 44 1 = h 1 3 := by rw [up_ne (by omega)]; unfold newPr; rw [up_ob (by omega), up_ob (by omega), up_ob (by omega), up_ob (by omega), up_ob (by omega), up_ob (by omega), en]
    have eh : up (newPr h k l m s ld) 44 0 0 44 11 = h 1 4 := by rw [up_ne (by omega)]; unfold newPr; rw [up_ob (by omega), up_ob (by omega), up_ob (by omega), up_ob (by omega), up_ob (by omega), up_ob (by omega), em]
    have c7 := fun d => c_X7_project (d := d + 19) hI hld ok
    have c8 := fun d => c_X8_project (d := d + 18) (h := newPr h k l m s ld) (g := up (newPr h k l m s ld) 44 0 0) (k := k) (l := l) (m := m) (s := s) (ld := ld) rfl (by rw [eg]; exact hn) (by rw [eh]; exact hm) hld (by
      unfold mPok
      rw [eg, eh]
      exact ⟨k1, k2, k3, k4, k5, fun z => k6 z, k7⟩)
    rw [eh] at c8
    refine agr_fn c7 c8 ?_
    generalize hx : mPrj (up (newPr h k l m s ld) 44 0 0) k l m s ld = x
    unfold mPrj at hx
    rw [eh] at hx
    unfold newPr at hx
    generalize hN : (h 1 4).toNat = n at hx
    have Hn : (n : Int) = h 1 4 := by omega
    have n5 : n < 5 := by omega
    have xo : ∀ a b, ¬ (a = 39 + n ∧ b < 5) → ¬ (a = 1 ∧ b = 4) → ¬ (a = 44 ∧ (b = 0 ∨ b = 11)) → ¬ (54 ≤ a ∧ a < 60 ∧ b = n) → x a b = h a b := fun a b h1 h2 h3 h4 => by
      rw [← hx, up_ne (by omega), up_ne (by omega), up_ne (by omega), up_ne (by omega), up_ne (by omega), up_ne (by omega), up_ne (by omega), up_ne (by omega), up_ne (by omega), up_ne (by omega), up_ne (by omega), up_ne (by omega), up_ne (by omega), up_ne (by omega)]
    have xob : ∀ a, a ≠ 39 + n → a ≠ 1 → a ≠ 44 → ¬ (54 ≤ a ∧ a < 60) → x a = h a := fun a h1 h2 h3 h4 => funext fun b => xo a b (fun z => h1 z.1) (fun z => h2 z.1) (fun z => h3 z.1) (fun z => h4 ⟨z.1, z.2.1⟩)
    have x14 : x 1 4 = h 1 4 + 1 := by rw [← hx, up_ne (by omega), up_ne (by omega), up_ne (by omega), up_ne (by omega), up_ne (by omega), up_ne (by omega), up_ne (by omega), up_ne (by omega), up_same]
    have x13 : x 1 3 = h 1 3 := xo 1 3 (by omega) (by omega) (by omega) (by omega)
    have x4411 : x 44 11 = h 1 4 + 1 := by rw [← hx, up_ne (by omega), up_ne (by omega), up_ne (by omega), up_ne (by omega), up_ne (by omega), up_ne (by omega), up_same]
    have m54 : x 54 n = k := by rw [← hx, up_ne (by omega), up_ne (by omega), up_ne (by omega), up_ne (by omega), up_ne (by omega), up_same]
    have m55 : x 55 n = l := by rw [← hx, up_ne (by omega), up_ne (by omega), up_ne (by omega), up_ne (by omega), up_same]
    have m56 : x 56 n = m := by rw [← hx, up_ne (by omega), up_ne (by omega), up_ne (by omega), up_same]
    have m57 : x 57 n = s := by rw [← hx, up_ne (by omega), up_ne (by omega), up_same]
    have m58 : x 58 n = ld := by rw [← hx, up_ne (by omega), up_same]
    have m59 : x 59 n = 1 := by rw [← hx, up_same]
    have s4 : x (39 + n) 4 = ld := by rw [← hx, up_ne (by omega), up_ne (by omega), up_ne (by omega), up_ne (by omega), up_ne (by omega), up_ne (by omega), up_ne (by omega), up_ne (by omega), up_ne (by omega), up_same]
    have s3 : x (39 + n) 3 = s := by rw [← hx, up_ne (by omega), up_ne (by omega), up_ne (by omega), up_ne (by omega), up_ne (by omega), up_ne (by omega), up_ne (by omega), up_ne (by omega), up_ne (by omega), up_ne (by omega), up_same]
    have s2 : x (39 + n) 2 = m := by rw [← hx, up_ne (by omega), up_ne (by omega), up_ne (by omega), up_ne (by omega), up_ne (by omega), up_ne (by omega), up_ne (by omega), up_ne (by omega), up_ne (by omega), up_ne (by omega), up_ne (by omega), up_same]
    have s1 : x (39 + n) 1 = l := by rw [← hx, up_ne (by omega), up_ne (by omega), up_ne (by omega), up_ne (by omega), up_ne (by omega), up_ne (by omega), up_ne (by omega), up_ne (by omega), up_ne (by omega), up_ne (by omega), up_ne (by omega), up_ne (by omega), up_same]
    have s0 : x (39 + n) 0 = k := by rw [← hx, up_ne (by omega), up_ne (by omega), up_ne (by omega), up_ne (by omega), up_ne (by omega), up_ne (by omega), up_ne (by omega), up_ne (by omega), up_ne (by omega), up_ne (by omega), up_ne (by omega), up_ne (by omega), up_ne (by omega), up_same]
    have s5 : x (39 + n) 5 = 1 := by rw [xo (39 + n) 5 (by omega) (by omega) (by omega) (by omega)]; exact f3 n (by omega) n5
    have x23 : ∀ p, p < 8 → x (23 + p) = h (23 + p) ∧ x (31 + p) = h (31 + p) := fun p hp => ⟨xob _ (by omega) (by omega) (by omega) (by omega), xob _ (by omega) (by omega) (by omega) (by omega)⟩
    have x39 : ∀ q, q < 5 → q ≠ n → x (39 + q) = h (39 + q) := fun p hp hne => xob _ (by omega) (by omega) (by omega) (by omega)
    have xk : ∀ k, k = 10 ∨ (45 ≤ k ∧ k < 54) ∨ k = 4 ∨ k = 21 ∨ k = 22 ∨ k = 64 ∨ k = 65 ∨ k = 66 ∨ k = 5 ∨ k = 67 ∨ k = 0 ∨ k = 3 ∨ k = 7 ∨ k = 16 ∨ k = 19 ∨ k = 20 → x k = h k := fun k hk => xob _ (by omega) (by omega) (by omega) (by omega)
    have x44 : ∀ b, b ≠ 0 → b ≠ 11 → x 44 b = h 44 b := fun b h1 h2 => xo 44 b (by omega) (by omega) (by omega) (by omega)
    have xf : ∀ a b, a < 8 → frB x a b = frB h a b ∧ apB x a b = apB h a b := fun a b ha => by
      unfold frB apB; rw [(x23 a ha).1]; exact ⟨rfl, rfl⟩
    have t3 : (x 1 3).toNat = (h 1 3).toNat := by rw [x13]
    have tn : (x 1 4).toNat = n + 1 := by rw [x14]; omega
    refine ⟨⟨⟨?_, ?_, ?_, ?_, ?_, ?_, ?_, ?_⟩, ⟨?_, ?_⟩, ⟨?_, ?_⟩, ⟨?_, ?_, ?_, ?_, ?_⟩, g.1.2.2.2.2.congr (by rw [xk 0 (by omega)]) (x44 36 (by omega) (by omega)) (xk 5 (by omega)) (xk 67 (by omega))⟩, g.2.congr (fun k hk => xk k (by omega))⟩
    · obtain ⟨a1, a2, a3, a4, a5⟩ := id hI
      refine ⟨by rw [x13]; exact a1, by rw [x14]; omega, fun p hp => ?_, fun q hq => ?_, fun i hi => by rw [xk 10 (by omega)]; exact a5 i hi⟩
      · unfold PUOK
        rw [(x23 p hp).1, (x23 p hp).2]
        exact a3 p hp
      · by_cases z : q = n
        · subst z
          unfold PROK
          rw [s0, s1, s2, s3, s4, s5]
          exact ⟨k1, by omega, by omega, k5, hld, Or.inr rfl, fun z => by have := k6 z; have := this.1; have := (k6 z).2; omega⟩
        · unfold PROK
          rw [x39 q hq z]
          exact a4 q hq
    · obtain ⟨r1, r2, r3, r4, r5, r6⟩ := r
      refine ⟨by rw [x44 1 (by omega) (by omega), x13]; exact r1, by rw [x4411, x14], fun q hq => ?_, fun a b ha hb => ?_, fun q hq => ?_, fun j hj => ?_⟩
      · rw [t3] at hq
        rw [xk 45 (by omega), xk 46 (by omega), (x23 q (by omega)).1]
        exact r3 q hq
      · rw [t3] at ha hb
        rw [(xf a b (by omega)).1, (xf a b (by omega)).2, (xf b a (by omega)).1, (xf b a (by omega)).2, xk 51 (by omega), xk 52 (by omega)]
        exact r4 a b ha hb
      · rw [tn] at hq
        by_cases z : q = n
        · subst z
          rw [m54, m55, m56, m57, m58, m59, s0, s1, s2, s3, s4, s5]
          exact ⟨rfl, rfl, rfl, rfl, rfl, rfl⟩
        · rw [xo 54 q (by omega) (by omega) (by omega) (by omega), xo 55 q (by omega) (by omega) (by omega) (by omega), xo 56 q (by omega) (by omega) (by omega) (by omega), xo 57 q (by omega) (by omega) (by omega) (by omega), xo 58 q (by omega) (by omega) (by omega) (by omega), xo 59 q (by omega) (by omega) (by omega) (by omega), x39 q (by omega) z]
          exact r5 q (by omega)
      · rw [t3] at hj
        rw [xk 53 (by omega), xk 10 (by omega), x13]
        exact r6 j hj
    · intro q hq h3
      rw [tn] at hq
      rw [x13]
      by_cases z : q = n
      · subst z
        rw [s0] at h3
        rw [s4]
        exact k6 h3
      · rw [x39 q (by omega) z] at h3 ⊢
        exact hl q (by omega) h3
    · intro a ha
      rw [t3] at ha
      rw [(xf a a (by omega)).2]
      exact ap a ha
    · unfold OPM
      rw [x13, xk 10 (by omega)]
      exact o
    · intro p h1 h2
      rw [x13] at h1
      rw [(x23 p h2).1, (x23 p h2).2]
      exact f1 p h1 h2
    · intro a b ha hb hab
      rw [x13] at hab
      rw [(xf a b ha).1, (xf a b ha).2, xk 51 (by omega), xk 52 (by omega)]
      exact f2 a b ha hb hab
    · intro q h1 h2
      rw [x14] at h1
      rw [x39 q h2 (by omega)]
      exact f3 q (by omega) h2
    · intro p hp
      rw [t3] at hp
      obtain ⟨w1, w2⟩ := g.1.2.1.1 p hp
      exact ⟨w1.mono (by rw [x14]; omega) (x23 p (by omega)).2 (by rw [(x23 p (by omega)).1]) (by rw [xk 47 (by omega)]) (fun k _ => by rw [xk 48 (by omega)]), by rw [xk 49 (by omega), (x23 p (by omega)).1]; exact w2⟩
    · intro p hp
      have := g.1.2.1.2 p hp
      unfold WI at this ⊢
      rw [(x23 p hp).1, (x23 p hp).2]
      exact this
    · intro p hp
      rw [t3] at hp
      rw [xk 4 (by omega), xk 50 (by omega), x14]
      have := g.1.2.2.1.1 p hp
      omega
    · intro p h1 h2
      rw [x13] at h1
      rw [xk 4 (by omega)]
      exact g.1.2.2.1.2 p h1 h2
    · rw [xk 3 (by omega)]; exact g.1.2.2.2.1.1
    · rw [xk 3 (by omega), x44 31 (by omega) (by omega)]; exact g.1.2.2.2.1.2.1
    · intro y p hy hp
      rw [xk 3 (by omega)] at hy
      have := g.1.2.2.2.1.2.2.1 y p hy hp
      unfold YR at this ⊢
      rw [x13, x14, xk 21 (by omega), xk 22 (by omega), xk 64 (by omega), xk 65 (by omega), xk 66 (by omega)]
      exact ⟨this.1, ⟨this.2.1.1, by omega⟩, this.2.2⟩
    · rw [xk 65 (by omega)]; exact g.1.2.2.2.1.2.2.2.1
    · intro p hp
      rw [(x23 p hp).1, xk 3 (by omega), show scF x p = scF h p from by unfold scF; rw [xk 22 (by omega)]]
      exact g.1.2.2.2.1.2.2.2.2 p hp
  · refine agr_fn (fun d => c_X7_project_N (d := d + 19) hI hk hll hmm hs hld ok) (fun d => c_X8_project_N (d := d + 18) rfl (by rw [up_ne (by omega)]; omega) (by rw [up_ne (by omega)]; omega) hk hll hmm hs hld ?_) (g.t0 (v := 0))
    unfold mPok
    rw [up_ne (by omega), up_ne (by omega), en, em]
    exact ok
