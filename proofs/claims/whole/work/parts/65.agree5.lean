/-! wish, wishes -/
theorem wish_rel {h x : Hp} {p : Nat} (g : REL h) (hp : p < (h 1 3).toNat) (xI : RI x) (xw : WI x p) (xr : WR x x p) (xo : ∀ a b, ¬ (a = 23 + p ∧ b = 2) → a ≠ 31 + p → ¬ (a = 44 ∧ b = 0) → ¬ (a = 47 ∧ b = p) → ¬ (a = 48 ∧ 5 * p ≤ b ∧ b < 5 * p + 5) → x a b = h a b) : REL x := by
  obtain ⟨hI, r, hl, ap, o, f1, f2, f3⟩ := g.1.1
  have hn := hI.n
  have hm := hI.q
  have xob : ∀ a, a ≠ 23 + p → a ≠ 31 + p → a ≠ 44 → a ≠ 47 → a ≠ 48 → x a = h a := fun a h1 h2 h3 h4 h5 => funext fun b => xo a b (fun z => h1 z.1) h2 (fun z => h3 z.1) (fun z => h4 z.1) (fun z => h5 z.1)
  have e1 := xob 1 (by omega) (by omega) (by omega) (by omega) (by omega)
  have xs : ∀ q b, q < 8 → b ≠ 2 → x (23 + q) b = h (23 + q) b := fun q b hq hb => xo _ _ (by omega) (by omega) (by omega) (by omega) (by omega)
  have xn : ∀ q, q < 8 → q ≠ p → x (23 + q) = h (23 + q) ∧ x (31 + q) = h (31 + q) := fun q hq hne => ⟨xob _ (by omega) (by omega) (by omega) (by omega) (by omega), xob _ (by omega) (by omega) (by omega) (by omega) (by omega)⟩
  have xf : ∀ a b, a < 8 → frB x a b = frB h a b ∧ apB x a b = apB h a b := fun a b ha => by
    unfold frB apB; rw [xs a 4 ha (by decide), xs a 5 ha (by decide)]; exact ⟨rfl, rfl⟩
  have x39 : ∀ q, q < 5 → x (39 + q) = h (39 + q) := fun q hq => xob _ (by omega) (by omega) (by omega) (by omega) (by omega)
  have xk : ∀ k, k = 10 ∨ k = 45 ∨ k = 46 ∨ (49 ≤ k ∧ k < 60) ∨ k = 4 ∨ k = 21 ∨ k = 22 ∨ k = 64 ∨ k = 65 ∨ k = 66 ∨ k = 5 ∨ k = 67 ∨ k = 0 ∨ k = 3 ∨ k = 7 ∨ k = 16 ∨ k = 19 ∨ k = 20 → x k = h k := fun k hk => xob _ (by omega) (by omega) (by omega) (by omega) (by omega)
  have x44 : ∀ b, b ≠ 0 → x 44 b = h 44 b := fun b h1 => xo 44 b (by omega) (by omega) (by omega) (by omega) (by omega)
  refine ⟨⟨⟨xI, ?_, ?_, ?_, ?_, ?_, ?_, ?_⟩, ⟨?_, ?_⟩, g.1.2.2.1.congr e1 (xk 4 (by omega)) (xk 50 (by omega)), g.1.2.2.2.1.congr e1 (xk 3 (by omega)) (x44 31 (by omega)) (fun k hk => xk k (by omega)) (fun q hq => xs q 3 hq (by decide)), g.1.2.2.2.2.congr (by rw [xk 0 (by omega)]) (x44 36 (by omega)) (xk 5 (by omega)) (xk 67 (by omega))⟩, g.2.congr (fun k hk => xk k (by omega))⟩
  · obtain ⟨r1, r2, r3, r4, r5, r6⟩ := r
    refine ⟨by rw [x44 1 (by omega), e1]; exact r1, by rw [x44 11 (by omega), e1]; exact r2, fun q hq => ?_, fun a b ha hb => ?_, fun q hq => ?_, fun j hj => ?_⟩
    · rw [e1] at hq
      rw [xk 45 (by omega), xk 46 (by omega), xs q 1 (by omega) (by decide), xs q 6 (by omega) (by decide)]
      exact r3 q hq
    · rw [e1] at ha hb
      rw [(xf a b (by omega)).1, (xf a b (by omega)).2, (xf b a (by omega)).1, (xf b a (by omega)).2, xk 51 (by omega), xk 52 (by omega)]
      exact r4 a b ha hb
    · rw [e1] at hq
      rw [xk 54 (by omega), xk 55 (by omega), xk 56 (by omega), xk 57 (by omega), xk 58 (by omega), xk 59 (by omega), x39 q (by omega)]
      exact r5 q hq
    · rw [e1] at hj
      rw [xk 53 (by omega), xk 10 (by omega), e1]
      exact r6 j hj
  · intro q hq h3
    rw [e1] at hq
    rw [x39 q (by omega)] at h3 ⊢
    rw [e1]
    exact hl q hq h3
  · intro a ha
    rw [e1] at ha
    rw [(xf a a (by omega)).2]
    exact ap a ha
  · unfold OPM
    rw [e1, xk 10 (by omega)]
    exact o
  · intro q h1 h2
    rw [e1] at h1
    rw [(xn q h2 (by omega)).1, (xn q h2 (by omega)).2]
    exact f1 q h1 h2
  · intro a b ha hb hab
    rw [e1] at hab
    rw [(xf a b ha).1, (xf a b ha).2, xk 51 (by omega), xk 52 (by omega)]
    exact f2 a b ha hb hab
  · intro q h1 h2
    rw [e1] at h1
    rw [x39 q h2]
    exact f3 q h1 h2
  · intro q hq
    rw [e1] at hq
    obtain ⟨w1, w2⟩ := g.1.2.1.1 q hq
    refine ⟨?_, by rw [xk 49 (by omega), xs q 3 (by omega) (by decide)]; exact w2⟩
    by_cases z : q = p
    · subst z; exact xr
    · exact w1.congr (by rw [e1]) (xn q (by omega) z).2 (by rw [(xn q (by omega) z).1]) (xo 47 q (by omega) (by omega) (by omega) (by omega) (by omega)) (fun k hk => xo 48 _ (by omega) (by omega) (by omega) (by omega) (by omega))
  · intro q hq
    by_cases z : q = p
    · subst z; exact xw
    · have := g.1.2.1.2 q hq
      unfold WI at this ⊢
      rw [(xn q hq z).1, (xn q hq z).2]
      exact this
theorem ag_wish {h : Hp} (g : REL h) {p q : Int} (hp : rng p) (hq : rng q) : AGR MX7_wish MX8_wish [mI p, mI q] h := by
  have hI := g.1.1.1
  have hn := hI.n
  have hm := hI.q
  have en : h 44 1 = h 1 3 := g.1.1.2.1.n
  have em : h 44 11 = h 1 4 := g.1.1.2.1.q
  by_cases ok : inN h p ∧ inQ h q ∧ h (31 + p.toNat) q.toNat = 6
  · obtain ⟨⟨p1, p2⟩, ⟨q1, q2⟩, h6⟩ := ok
    have c7 := fun d => c_X7_wish (d := d + 18) hI (p := p) (q := q) ⟨p1, p2⟩ ⟨q1, q2⟩ h6
    generalize hi : p.toNat = i at c7 h6
    generalize hj : q.toNat = j at c7 h6
    have wi := g.1.2.1.2 i (by omega)
    have w5 := addW_5 hI (p := i) (j := j) (by omega) wi (by omega) h6
    have wr := (g.1.2.1.1 i (by omega)).1
    have ao : ∀ a b, ¬ (a = 23 + i ∧ b = 2) → a ≠ 31 + i → addW h i j a b = h a b := fun a b h1 h2 => by unfold addW; rw [up_ob h2, up_ne h1]
    have go : ∀ a b, ¬ (a = 23 + i ∧ b = 2) → a ≠ 31 + i → ¬ (a = 44 ∧ b = 0) → up (addW h i j) 44 0 0 a b = h a b := fun a b h1 h2 h3 => by rw [up_ne h3]; exact ao a b h1 h2
    have wg : WR h (up (addW h i j) 44 0 0) i := wr.congr rfl rfl rfl (go 47 i (by omega) (by omega) (by omega)) (fun k hk => go 48 _ (by omega) (by omega) (by omega))
    have e47 : up (addW h i j) 44 0 0 47 i = h (23 + i) 2 := by rw [go 47 i (by omega) (by omega) (by omega)]; exact wr.2.2.2
    have c8 := fun d => c_X8_wish (d := d + 18) (h := addW h i j) (g := up (addW h i j) 44 0 0) (c := h) (p := i) (q := j) rfl (by rw [go 44 1 (by omega) (by omega) (by omega)]; omega) (by rw [go 44 11 (by omega) (by omega) (by omega)]; omega) hm.2 (by rw [go 44 1 (by omega) (by omega) (by omega)]; omega) (by rw [go 44 11 (by omega) (by omega) (by omega)]; omega) wg h6 (by rw [e47]; exact w5)
    rw [e47, show ((i : Nat) : Int) = p by omega, show ((j : Nat) : Int) = q by omega] at c8
    refine agr_fn c7 c8 ?_
    have rw2 := addW_RI hI (p := i) (j := j) (by omega) wi (by omega) h6
    have wr2 := wg.add (j := j) (by omega) hm.2 h6 (by rw [e47]; exact w5)
    rw [show ((q : Int)) = ((j : Nat) : Int) by omega]
    have w0 := wr.1
    generalize hx : mAdd (up (addW h i j) 44 0 0) i (j : Int) = x at wr2
    have xa : ∀ a, a ≠ 44 → a ≠ 47 → a ≠ 48 → x a = addW h i j a := fun a h1 h2 h3 => by
      rw [← hx]; unfold mAdd; rw [up_obf h2, up_obf h3, up_obf h1]
    have e47n : (up (addW h i j) 44 0 0 47 i).toNat < 5 := by rw [e47]; have := w0; rw [wr.2.2.2] at this; omega
    refine wish_rel (p := i) g (by omega) (rw2.1.congr (fun k hk => xa k (by omega) (by omega) (by omega))) ?_ (wr2.congr (by rw [xa 1 (by omega) (by omega) (by omega)]) (xa _ (by omega) (by omega) (by omega)) (by rw [xa _ (by omega) (by omega) (by omega)]) rfl (fun _ _ => rfl)) (fun a b h1 h2 h3 h4 h5 => ?_)
    · have := rw2.2
      unfold WI at this ⊢
      rw [xa _ (by omega) (by omega) (by omega), xa _ (by omega) (by omega) (by omega)]
      exact this
    · rw [← hx]
      unfold mAdd
      rw [up_ne h4, up_ne (by omega), up_ne h3]
      exact ao a b h1 h2
  · exact agr_fn (fun d => c_X7_wish_N (d := d + 18) hI hp hq ok) (fun d => c_X8_wish_N (d := d + 18) (c := h) rfl (by rw [up_ne (by omega)]; omega) (by rw [up_ne (by omega)]; omega) hm.2 hp hq (fun p hp => (g.1.2.1.1 p (by rw [up_ne (by omega)] at hp; omega)).1.congr rfl rfl rfl (up_ob (by decide)) (fun k _ => up_ob (by decide))) (by rw [up_ne (by omega), up_ne (by omega), en, em]; exact ok)) (g.t0 (v := 0))
theorem wlF_ok {p : Nat} {kind step : Int} (hp : p < 8) : ∀ (k : Nat) (e : Int) (g : Hp), RI g → WI g p → RI (wlF p kind step k e g) ∧ WI (wlF p kind step k e g) p ∧ ∀ a b, ¬ (a = 23 + p ∧ b = 2) → a ≠ 31 + p → wlF p kind step k e g a b = g a b
  | 0, _, g, h1, h2 => ⟨h1, h2, fun _ _ _ _ => rfl⟩
  | k + 1, e, g, h1, h2 => by
    rw [wlF]
    split
    · rename_i z
      obtain ⟨z1, z2⟩ := pb_iff.mp z
      have hq := h1.q
      have z3 := z1.2
      have z4 := z1.1
      have a := addW_RI h1 (p := p) (j := (wlV kind e).toNat) hp h2 (by omega) z2
      obtain ⟨i1, i2, i3⟩ := wlF_ok hp k (w32 (e + step)) _ a.1 a.2
      exact ⟨i1, i2, fun a b n1 n2 => by rw [i3 a b n1 n2]; unfold addW; rw [up_ob n2, up_ne n1]⟩
    · exact ⟨h1, h2, fun _ _ _ _ => rfl⟩
theorem ag_wishes {h : Hp} (g : REL h) {p kind n f step : Int} (hp : rng p) (hk : rng kind) (hnn : rng n) (hf : rng f) (hs : rng step) : AGR MX7_wishes MX8_wishes [mI p, mI kind, mI n, mI f, mI step] h := by
  have hI := g.1.1.1
  have hn := hI.n
  have hm := hI.q
  have en : h 44 1 = h 1 3 := g.1.1.2.1.n
  have em : h 44 11 = h 1 4 := g.1.1.2.1.q
  by_cases ok : inN h p ∧ (0 ≤ kind ∧ kind ≤ 2) ∧ n ≤ 20
  · obtain ⟨⟨p1, p2⟩, k1, n1⟩ := ok
    by_cases ln : kind ≤ 1 ∧ n < 0
    · exact agr_fn (fun d => c_X7_wishes_L (d := d + 18) hI hnn ⟨p1, p2⟩ ⟨k1.1, ln.1⟩ ln.2) (fun d => c_X8_wishes_L (d := d + 18) rfl (by rw [up_ne (by omega)]; omega) hnn (by rw [up_ne (by omega)]; omega) ⟨k1.1, ln.1⟩ ln.2) (g.t0 (v := 0))
    · have hN : 0 ≤ n ∧ n ≤ 20 ∨ kind = 2 ∧ n ≤ 20 ∧ -2147483648 ≤ n := by omega
      have c7 := fun d => c_X7_wishes (d := d + 18) hI (p := p) ⟨p1, p2⟩ k1 hN hf hs
      generalize hi : p.toNat = i at c7
      have cr := clr_RI hI (p := i) (by omega)
      obtain ⟨w1, w2, w3⟩ := wlF_ok (p := i) (kind := kind) (step := step) (by omega) (if kind = 2 then 0 else n.toNat) f _ cr.1 cr.2
      generalize hc : wlF i kind step (if kind = 2 then 0 else n.toNat) f (clr h i) = c1 at c7 w1 w2 w3
      have co : ∀ a b, ¬ (a = 23 + i ∧ b = 2) → a ≠ 31 + i → c1 a b = h a b := fun a b h1 h2 => by
        rw [w3 a b h1 h2, clr_at, if_neg (fun z => h2 z.1), if_neg h1]
      have go : ∀ a b, ¬ (a = 23 + i ∧ b = 2) → a ≠ 31 + i → ¬ (a = 44 ∧ b = 0) → up c1 44 0 0 a b = h a b := fun a b h1 h2 h3 => by rw [up_ne h3]; exact co a b h1 h2
      have c8 := fun d => c_X8_wishes (d := d + 18) (h := c1) (g := up c1 44 0 0) (c := h) (p := i) rfl (by rw [go 44 1 (by omega) (by omega) (by omega)]; omega) (by rw [go 44 11 (by omega) (by omega) (by omega)]; omega) (by rw [go 44 11 (by omega) (by omega) (by omega)]; exact em) hI (by rw [go 44 1 (by omega) (by omega) (by omega)]; omega) k1 hN hf hs
      rw [hc, show ((i : Nat) : Int) = p by omega] at c8
      refine agr_fr c7 c8 (fun r x ⟨x1, x2, x3⟩ => ?_)
      have xa : ∀ a, a ≠ 44 → a ≠ 47 → a ≠ 48 → x a = c1 a := fun a h1 h2 h3 => funext fun b => by rw [x3 a b (fun z => h2 z.1) (fun z => h3 z.1), up_ob h1]
      refine ⟨by rw [x2, x1.2.2.2], wish_rel (p := i) g (by omega) (w1.congr (fun k hk => xa k (by omega) (by omega) (by omega))) ?_ (x1.congr (by rw [xa 1 (by omega) (by omega) (by omega)]) (xa _ (by omega) (by omega) (by omega)) (by rw [xa _ (by omega) (by omega) (by omega)]) rfl (fun _ _ => rfl)) (fun a b h1 h2 h3 h4 h5 => ?_)⟩
      · unfold WI at w2 ⊢
        rw [xa _ (by omega) (by omega) (by omega), xa _ (by omega) (by omega) (by omega)]
        exact w2
      · rw [x3 a b h4 h5]
        exact go a b h1 h2 h3
  · exact agr_fn (fun d => c_X7_wishes_N (d := d + 18) hI hp hk hnn ok) (fun d => c_X8_wishes_N (d := d + 18) rfl (by rw [up_ne (by omega)]; omega) hp hk hnn (by rw [up_ne (by omega), en]; exact ok)) (g.t0 (v := 0))
