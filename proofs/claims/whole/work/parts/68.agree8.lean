/-! book, undo -/
theorem G1.slot3 {h x : Hp} (g : G1 h) (e1 : x 1 = h 1) (e10 : x 10 = h 10) (es : ∀ p b, p < 8 → b ≠ 3 → x (23 + p) b = h (23 + p) b) (e31 : ∀ p, p < 8 → x (31 + p) = h (31 + p)) (e39 : ∀ q, q < 5 → x (39 + q) = h (39 + q)) (em : ∀ k, k = 45 ∨ k = 46 ∨ (51 ≤ k ∧ k < 60) → x k = h k) (m1 : x 44 1 = h 44 1) (m11 : x 44 11 = h 44 11) (sc : ∀ p, p < 8 → 0 ≤ x (23 + p) 3 ∧ x (23 + p) 3 ≤ 300) (fs : ∀ p : Nat, h 1 3 ≤ p → p < 8 → x (23 + p) 3 = 0) : G1 x := by
  obtain ⟨hI, r, hl, ap, o, f1, f2, f3⟩ := g
  have hn := hI.n
  have hm := hI.q
  have xf : ∀ a b, a < 8 → frB x a b = frB h a b ∧ apB x a b = apB h a b := fun a b ha => by
    unfold frB apB; rw [es a 4 ha (by decide), es a 5 ha (by decide)]; exact ⟨rfl, rfl⟩
  obtain ⟨a1, a2, a3, a4, a5⟩ := hI
  refine ⟨⟨by rw [e1]; exact a1, by rw [e1]; exact a2, fun p hp => ?_, fun q hq => ?_, fun i hi => by rw [e10]; exact a5 i hi⟩, ?_, fun q hq h3 => ?_, fun a ha => ?_, ?_, fun p h1 h2 => ?_, fun a b ha hb hab => ?_, fun q h1 h2 => ?_⟩
  · have b := a3 p hp
    unfold PUOK at b ⊢
    rw [es p 1 hp (by decide), es p 2 hp (by decide), es p 4 hp (by decide), es p 5 hp (by decide), es p 6 hp (by decide), e31 p hp]
    exact ⟨b.1, b.2.1, sc p hp, b.2.2.2⟩
  · unfold PROK
    rw [e39 q hq]
    exact a4 q hq
  · obtain ⟨r1, r2, r3, r4, r5, r6⟩ := r
    refine ⟨by rw [m1, e1]; exact r1, by rw [m11, e1]; exact r2, fun q hq => ?_, fun a b ha hb => ?_, fun q hq => ?_, fun j hj => ?_⟩
    · rw [e1] at hq
      rw [em 45 (by omega), em 46 (by omega), es q 1 (by omega) (by decide), es q 6 (by omega) (by decide)]
      exact r3 q hq
    · rw [e1] at ha hb
      rw [(xf a b (by omega)).1, (xf a b (by omega)).2, (xf b a (by omega)).1, (xf b a (by omega)).2, em 51 (by omega), em 52 (by omega)]
      exact r4 a b ha hb
    · rw [e1] at hq
      rw [em 54 (by omega), em 55 (by omega), em 56 (by omega), em 57 (by omega), em 58 (by omega), em 59 (by omega), e39 q (by omega)]
      exact r5 q hq
    · rw [e1] at hj
      rw [em 53 (by omega), e10, e1]
      exact r6 j hj
  · rw [e1] at hq
    rw [e39 q (by omega)] at h3 ⊢
    rw [e1]
    exact hl q hq h3
  · rw [e1] at ha
    rw [(xf a a (by omega)).2]
    exact ap a ha
  · unfold OPM
    rw [e1, e10]
    exact o
  · rw [e1] at h1
    rw [es p 2 h2 (by decide), fs p h1 h2, es p 4 h2 (by decide), es p 5 h2 (by decide), es p 6 h2 (by decide), e31 p h2]
    have f := f1 p h1 h2
    exact ⟨f.1, rfl, f.2.2⟩
  · rw [e1] at hab
    rw [(xf a b ha).1, (xf a b ha).2, em 51 (by omega), em 52 (by omega)]
    exact f2 a b ha hb hab
  · rw [e1] at h1
    rw [e39 q h2]
    exact f3 q h1 h2
theorem flt_12 {h : Hp} (hI : RI h) (hf : flt h = 0) : ∀ p, p < (h 1 3).toNat → ¬ phas h 1 p ∧ ¬ phas h 2 p := by
  have r1 := fltK_rng hI 1
  have r2 := fltK_rng hI 2
  have k1 : fltK h 1 = -1 := Classical.byContradiction (fun z => by
    unfold flt at hf
    rw [fltFrom, if_neg z] at hf
    omega)
  have k2 : fltK h 2 = -1 := Classical.byContradiction (fun z => by
    unfold flt at hf
    rw [fltFrom, if_pos k1, fltFrom, if_neg (show ¬ fltK h (1 + 1) = -1 from z)] at hf
    rw [show (1 : Int) + 1 = 2 by omega] at hf
    omega)
  unfold fltK at k1 k2
  rw [if_neg (by omega)] at k1 k2
  rw [firstI_none] at k1 k2
  exact fun p hp => ⟨k1 p (by omega) (by omega), k2 p (by omega) (by omega)⟩
theorem sum5 {f : Nat → Int} : ∀ n : Nat, (∀ i, i < n → 0 ≤ f i ∧ f i ≤ 5) → 0 ≤ sumN f n ∧ sumN f n ≤ 5 * n
  | 0, _ => by rw [sumN]; omega
  | n + 1, h => by
    have a := sum5 n (fun i hi => h i (by omega))
    have b := h n (by omega)
    rw [sumN]
    omega
theorem pos1_rng {r : Int} (h : 0 ≤ r ∧ r ≤ 6) : 0 ≤ pos1 r ∧ pos1 r ≤ 5 := by unfold pos1; split <;> omega
theorem rkP_rng {h : Hp} (hI : RI h) {p : Nat} (hp : p < 8) : 0 ≤ rkP h p ∧ rkP h p ≤ 6 := by
  unfold rkP
  split
  · have := rkI_rng hI hp (h 4 p); omega
  · omega
theorem ag_book {h : Hp} (g : REL h) : AGR MX7_book MX8_book [] h := by
  obtain ⟨hI, r, hl, ap, o, f1, f2, f3⟩ := g.1.1
  have hn := hI.n
  have hm := hI.q
  have hL := PLI_of hI g.1.2.2.1
  obtain ⟨y1, y2, y3, y4, y5⟩ := g.1.2.2.2.1
  have scr : ∀ p, p < 8 → ∀ n : Nat, (n : Int) ≤ h 3 2 → 0 ≤ sumN (scF h p) n ∧ sumN (scF h p) n ≤ 5 * n := fun p hp n hN => sum5 n (fun y hy => pos1_rng (y3 y p (by omega) hp).2.2.1)
  by_cases bad : flt h ≠ 0 ∨ h 3 2 = 60
  · have g' := g.t0 (v := 0)
    have fe : flt (up h 44 0 0) = flt h := flt_congr hI (up_obf (by decide)) (up_obf (by decide)) (fun p hp => by rw [up_obf (show 23 + p ≠ 44 by omega)]; exact ⟨rfl, rfl, rfl⟩) (fun q hq => up_obf (by omega))
    have e31 : up h 44 0 0 44 31 = h 3 2 := (up_ne (by omega)).trans y2
    have fr := flt_rng hI
    have c8 := fun d => c_X8_book_N (d := d + 17) (h := h) (c := up h 44 0 0) rfl g'.1.1.1 g'.1.1.2.1 g'.1.1.2.2.1 CP.rf g'.1.1.2.2.2.1 g'.1.2.2.1.1 (by rw [fe]; constructor <;> omega) (by rw [e31]; exact y1) (by rw [fe, e31]; exact bad)
    rw [e31] at c8
    exact agr_fn (fun d => c_X7_book_N (d := d + 15) hI hL y1 bad) c8 g'
  · have hf : flt h = 0 := Classical.byContradiction (fun z => bad (Or.inl z))
    have hY : h 3 2 < 60 := by omega
    have hs : ∀ p, p < 8 → h (23 + p) 3 ≤ 295 := fun p hp => by
      rw [y5 p hp]
      have := scr p hp (h 3 2).toNat (by omega)
      omega
    have c7 := fun d => c_X7_book (d := d + 15) hI hL ⟨y1.1, hY⟩ hs hf
    generalize hYn : (h 3 2).toNat = Y
    have Yn : (Y : Int) = h 3 2 := by omega
    generalize hb : up (BKi h 8) 3 2 (h 3 2 + 1) = b at c7
    have bo : ∀ a c, ¬ ((a = 21 ∨ a = 22) ∧ 8 * Y ≤ c ∧ c < 8 * Y + 8) → ¬ (a = 4 ∧ c < 8) → ¬ (23 ≤ a ∧ a < 31 ∧ c = 3) → ¬ (a = 3 ∧ c = 2) → b a c = h a c := fun a c h1 h2 h3 h4 => by
      rw [← hb, up_ne h4]
      unfold BKi
      rw [hYn, if_neg (by omega), if_neg (by omega), if_neg h2, if_neg (by omega)]
    have bob : ∀ a, a ≠ 21 → a ≠ 22 → a ≠ 4 → ¬ (23 ≤ a ∧ a < 31) → a ≠ 3 → b a = h a := fun a h1 h2 h3 h4 h5 => funext fun c => bo a c (by omega) (by omega) (by omega) (by omega)
    have b21 : ∀ p, p < 8 → b 21 (8 * Y + p) = h 4 p := fun p hp => by
      rw [← hb, up_ne (by omega)]
      unfold BKi
      rw [hYn, if_pos ⟨rfl, by omega, by omega⟩, show 8 * Y + p - 8 * Y = p by omega]
    have b22 : ∀ p, p < 8 → b 22 (8 * Y + p) = rkP h p := fun p hp => by
      rw [← hb, up_ne (by omega)]
      unfold BKi
      rw [hYn, if_neg (by omega), if_pos ⟨rfl, by omega, by omega⟩, show 8 * Y + p - 8 * Y = p by omega]
    have b4 : ∀ p, p < 8 → b 4 p = -1 := fun p hp => by
      rw [← hb, up_ne (by omega)]
      unfold BKi
      rw [if_neg (by omega), if_neg (by omega), if_pos ⟨rfl, hp⟩]
    have b3 : ∀ p, p < 8 → b (23 + p) 3 = h (23 + p) 3 + pos1 (rkP h p) := fun p hp => by
      rw [← hb, up_ne (by omega)]
      unfold BKi
      rw [if_neg (by omega), if_neg (by omega), if_neg (by omega), if_pos ⟨by omega, by omega, rfl⟩, show 23 + p - 23 = p by omega]
    have b32 : b 3 2 = h 3 2 + 1 := by rw [← hb, up_same]
    generalize hgg : up b 44 0 0 = gg
    have go : ∀ a c, ¬ (a = 44 ∧ c = 0) → gg a c = b a c := fun a c hh => by rw [← hgg, up_ne hh]
    have gob : ∀ a, a ≠ 44 → gg a = b a := fun a hh => by rw [← hgg, up_obf hh]
    have g44 : ∀ c, c ≠ 0 → gg 44 c = h 44 c := fun c hc => by rw [go 44 c (by omega), bob 44 (by omega) (by omega) (by omega) (by omega) (by omega)]
    have gk : ∀ a, a ≠ 44 → a ≠ 21 → a ≠ 22 → a ≠ 4 → ¬ (23 ≤ a ∧ a < 31) → a ≠ 3 → gg a = h a := fun a h1 h2 h3 h4 h5 h6 => by rw [gob a h1]; exact bob a h2 h3 h4 h5 h6
    have gs : ∀ p c, p < 8 → c ≠ 3 → gg (23 + p) c = h (23 + p) c := fun p c hp hc => by rw [go _ _ (by omega)]; exact bo _ _ (by omega) (by omega) (by omega) (by omega)
    have g3 : ∀ p, p < 8 → gg (23 + p) 3 = h (23 + p) 3 + pos1 (rkP h p) := fun p hp => by rw [go _ _ (by omega)]; exact b3 p hp
    have e1 : gg 1 = h 1 := gk 1 (by omega) (by omega) (by omega) (by omega) (by omega) (by omega)
    have p0 : ∀ p, p < 8 → 0 ≤ pos1 (rkP h p) ∧ pos1 (rkP h p) ≤ 5 := fun p hp => pos1_rng (rkP_rng hI hp)
    have G1g : G1 gg := g.1.1.slot3 e1 (gk 10 (by omega) (by omega) (by omega) (by omega) (by omega) (by omega)) gs (fun p hp => gk _ (by omega) (by omega) (by omega) (by omega) (by omega) (by omega)) (fun q hq => gk _ (by omega) (by omega) (by omega) (by omega) (by omega) (by omega)) (fun k hk => gk _ (by omega) (by omega) (by omega) (by omega) (by omega) (by omega)) (g44 1 (by omega)) (g44 11 (by omega)) (fun p hp => by
        rw [g3 p hp]
        have := hs p hp
        have := p0 p hp
        have := (hI.pu hp).2.2.1
        omega) (fun p h1 h2 => by
        rw [g3 p h2, (f1 p h1 h2).2.1]
        unfold rkP
        rw [if_neg (by omega)]
        rfl)
    have fe : flt (setR gg 4 (h 4)) = flt h := flt_congr hI (by rw [setR_ne (by decide)]; exact e1) setR_same (fun p hp => by rw [setR_ne (by omega), gs p 1 (by omega) (by decide), gs p 5 (by omega) (by decide), gs p 6 (by omega) (by decide)]; exact ⟨rfl, rfl, rfl⟩) (fun q hq => by rw [setR_ne (by omega)]; exact gk _ (by omega) (by omega) (by omega) (by omega) (by omega) (by omega))
    have pq := g.1.2.2.1.1
    have c8 := fun d => c_X8_book (d := d + 17) (h := b) (c := setR gg 4 (h 4)) (rf := fun p j => if p < 8 then rkI h p j else 6) hgg G1g.1 G1g.2.1 G1g.2.2.1 (fun x hx => setR_ne hx) G1g.2.2.2.1 (fun p hp => by
        rw [e1] at hp ⊢
        rw [gk 50 (by omega) (by omega) (by omega) (by omega) (by omega) (by omega), setR_same]
        exact pq p hp) (fun p hp => by
        rw [e1] at hp
        have rk := WL.rk hI g.1.2.1.1 hp
        have : (fun j => if p < 8 then rkI h p j else 6) = rkI h p := by funext j; rw [if_pos (by omega)]
        rw [this]
        exact rk.congr (by rw [gk 47 (by omega) (by omega) (by omega) (by omega) (by omega) (by omega)]) (fun i _ => by rw [gk 48 (by omega) (by omega) (by omega) (by omega) (by omega) (by omega)])) (fun p j => by
        show 0 ≤ (if p < 8 then rkI h p j else 6) ∧ (if p < 8 then rkI h p j else 6) ≤ 6
        split
        · rename_i z; have := rkI_rng hI z j; omega
        · omega) (by rw [g44 31 (by omega), y2]; exact ⟨y1.1, hY⟩) (by rw [fe]; exact hf)
    refine agr_fr c7 c8 (fun r2 x hx => ?_)
    obtain ⟨rx, y, bk, xv⟩ := hx
    rw [g44 31 (by omega), y2, hYn, e1] at bk
    rw [g44 31 (by omega), y2] at xv
    obtain ⟨bk1, bk2⟩ := bk
    have x_y : ∀ a c, ¬ (a = 44 ∧ c = 31) → x a c = y a c := fun a c hh => by rw [xv, up_ne hh]
    have xo : ∀ a c, ¬ (a = 44 ∧ c = 31) → ¬ (a = 64 ∧ 8 * Y ≤ c ∧ c < 8 * Y + 8) → ¬ (a = 65 ∧ 8 * Y ≤ c ∧ c < 8 * Y + 8) → ¬ (a = 49 ∧ c < 8) → ¬ (a = 50 ∧ c < 8) → ¬ (a = 66 ∧ c = Y) → x a c = gg a c := fun a c h1 h2 h3 h4 h5 h6 => by
      rw [x_y a c h1, bk1 a c (by omega) (by omega) (by omega) (by omega), up_ne h6]
    have xg : ∀ a, a ≠ 44 → a ≠ 64 → a ≠ 65 → a ≠ 49 → a ≠ 50 → a ≠ 66 → x a = gg a := fun a h1 h2 h3 h4 h5 h6 => funext fun c => xo a c (by omega) (by omega) (by omega) (by omega) (by omega) (by omega)
    have x44 : ∀ c, c ≠ 31 → x 44 c = gg 44 c := fun c hc => xo 44 c (by omega) (by omega) (by omega) (by omega) (by omega) (by omega)
    have x31 : x 44 31 = h 3 2 + 1 := by rw [xv, up_same]
    have x66 : x 66 Y = h 1 3 := by rw [x_y 66 Y (by omega), bk1 66 Y (by omega) (by omega) (by omega) (by omega), up_same]
    have sr : SR gg x := ⟨fun k hk => xg k (by omega) (by omega) (by omega) (by omega) (by omega) (by omega), fun k hk => xg k (by omega) (by omega) (by omega) (by omega) (by omega) (by omega), x44 1 (by omega), x44 11 (by omega)⟩
    have x1 : x 1 = h 1 := (xg 1 (by omega) (by omega) (by omega) (by omega) (by omega) (by omega)).trans e1
    have x3 : x 3 2 = h 3 2 + 1 := by rw [xg 3 (by omega) (by omega) (by omega) (by omega) (by omega) (by omega), gob 3 (by omega), b32]
    have ph := flt_12 hI hf
    have rm : ∀ p, p < (h 1 3).toNat → rM gg (fun p j => if p < 8 then rkI h p j else 6) p = rkP h p := fun p hp => by
      obtain ⟨q1, q2⟩ := ph p hp
      have e46 : gg 46 p = h (23 + p) 6 := by rw [gk 46 (by omega) (by omega) (by omega) (by omega) (by omega) (by omega)]; exact (r.pu hp).2
      have e50 : gg 50 p = h 4 p := by rw [gk 50 (by omega) (by omega) (by omega) (by omega) (by omega) (by omega)]; exact (pq p hp).1
      have h6 := (hI.pu (p := p) (by omega)).2.2.2.2.2.1
      unfold rM rkP
      rw [e46, e50]
      by_cases z : h (23 + p) 6 = 1
      · rw [if_pos z, if_pos ⟨hp, fun w => q1 (Or.inl ⟨rfl, z, w⟩)⟩]
        show (if p < 8 then rkI h p (h 4 p) else 6) = _
        rw [if_pos (by omega)]
      · rw [if_neg z, if_neg (fun w => q2 (Or.inr (Or.inl ⟨rfl, by omega, w.2⟩)))]
    refine ⟨rx, ⟨G1g.sr sr, ⟨fun p hp => ?_, fun p hp => ?_⟩, ⟨fun p hp => ?_, fun p h1 h2 => ?_⟩, ⟨by rw [x3]; omega, by rw [x31, x3], fun yy p hy hp => ?_, fun i hi => ?_, fun p hp => ?_⟩, ?_⟩, ?_⟩
    · rw [x1] at hp
      obtain ⟨w1, w2⟩ := g.1.2.1.1 p hp
      have q := bk2 p hp
      refine ⟨w1.congr (by rw [x1]) (by rw [xg _ (by omega) (by omega) (by omega) (by omega) (by omega) (by omega)]; exact gk _ (by omega) (by omega) (by omega) (by omega) (by omega) (by omega)) (by rw [xg _ (by omega) (by omega) (by omega) (by omega) (by omega) (by omega)]; exact gs p 2 (by omega) (by decide)) (by rw [xg 47 (by omega) (by omega) (by omega) (by omega) (by omega) (by omega), gk 47 (by omega) (by omega) (by omega) (by omega) (by omega) (by omega)]) (fun k _ => by rw [xg 48 (by omega) (by omega) (by omega) (by omega) (by omega) (by omega), gk 48 (by omega) (by omega) (by omega) (by omega) (by omega) (by omega)]), ?_⟩
      rw [x_y 49 p (by omega), q.2.2.1, rm p hp, up_ob (by decide), gk 49 (by omega) (by omega) (by omega) (by omega) (by omega) (by omega), xg _ (by omega) (by omega) (by omega) (by omega) (by omega) (by omega), g3 p (by omega), w2]
    · have := g.1.2.1.2 p hp
      unfold WI at this ⊢
      rw [xg _ (by omega) (by omega) (by omega) (by omega) (by omega) (by omega), gs p 2 hp (by decide), xg _ (by omega) (by omega) (by omega) (by omega) (by omega) (by omega), gk (31 + p) (by omega) (by omega) (by omega) (by omega) (by omega) (by omega)]
      exact this
    · rw [x1] at hp ⊢
      have q := bk2 p hp
      rw [x_y 50 p (by omega), q.2.2.2, xg 4 (by omega) (by omega) (by omega) (by omega) (by omega) (by omega), gob 4 (by omega), b4 p (by omega)]
      omega
    · rw [xg 4 (by omega) (by omega) (by omega) (by omega) (by omega) (by omega), gob 4 (by omega), b4 p h2]
    · rw [x3] at hy
      unfold YR
      rw [x1, xg 21 (by omega) (by omega) (by omega) (by omega) (by omega) (by omega), gob 21 (by omega), xg 22 (by omega) (by omega) (by omega) (by omega) (by omega) (by omega), gob 22 (by omega)]
      by_cases z : yy = Y
      · subst z
        rw [x66, b21 p hp, b22 p hp]
        have rr := rkP_rng hI hp
        refine ⟨⟨by omega, by omega⟩, ?_, rr, fun hpn => ?_, fun hpn => ?_⟩
        · by_cases w : p < (h 1 3).toNat
          · exact ⟨(pq p w).2.1, (pq p w).2.2⟩
          · rw [g.1.2.2.1.2 p (by omega) hp]; omega
        · have hp' : p < (h 1 3).toNat := by omega
          have q := bk2 p hp'
          rw [x_y 64 _ (by omega), x_y 65 _ (by omega), q.1, q.2.1, rm p hp', up_ob (by decide), gk 50 (by omega) (by omega) (by omega) (by omega) (by omega) (by omega)]
          exact ⟨(pq p hp').1, rfl⟩
        · refine ⟨g.1.2.2.1.2 p hpn hp, ?_⟩
          unfold rkP
          rw [if_neg (by omega)]
      · have hyy : yy < Y := by omega
        have old := y3 yy p (by omega) hp
        unfold YR at old
        rw [xo 66 yy (by omega) (by omega) (by omega) (by omega) (by omega) (by omega), xo 64 (8 * yy + p) (by omega) (by omega) (by omega) (by omega) (by omega) (by omega), xo 65 (8 * yy + p) (by omega) (by omega) (by omega) (by omega) (by omega) (by omega), bo 21 (8 * yy + p) (by omega) (by omega) (by omega) (by omega), bo 22 (8 * yy + p) (by omega) (by omega) (by omega) (by omega), gk 66 (by omega) (by omega) (by omega) (by omega) (by omega) (by omega), gk 64 (by omega) (by omega) (by omega) (by omega) (by omega) (by omega), gk 65 (by omega) (by omega) (by omega) (by omega) (by omega) (by omega)]
        exact old
    · by_cases z : 8 * Y ≤ i ∧ i < 8 * Y + (h 1 3).toNat
      · have q := bk2 (i - 8 * Y) (by omega)
        rw [show 8 * Y + (i - 8 * Y) = i by omega] at q
        rw [x_y 65 i (by omega), q.2.1, rm _ (by omega)]
        exact rkP_rng hI (by omega)
      · rw [x_y 65 i (by omega), bk1 65 i (by omega) (by omega) (by omega) (by omega), up_ne (by omega), gk 65 (by omega) (by omega) (by omega) (by omega) (by omega) (by omega)]
        exact y4 i hi
    · have ex : x 22 = b 22 := (xg 22 (by omega) (by omega) (by omega) (by omega) (by omega) (by omega)).trans (gob 22 (by omega))
      rw [x3, show (h 3 2 + 1).toNat = Y + 1 by omega, sumN, xg _ (by omega) (by omega) (by omega) (by omega) (by omega) (by omega), g3 p hp, y5 p hp, hYn]
      congr 1
      · refine sumN_congr Y (fun i hi => ?_)
        unfold scF
        rw [ex, bo 22 (8 * i + p) (by omega) (by omega) (by omega) (by omega)]
      · unfold scF
        rw [ex, b22 p hp]
    · exact g.1.2.2.2.2.congr (by rw [xg 0 (by omega) (by omega) (by omega) (by omega) (by omega) (by omega), gk 0 (by omega) (by omega) (by omega) (by omega) (by omega) (by omega)]) (by rw [x44 36 (by omega), g44 36 (by omega)]) (by rw [xg 5 (by omega) (by omega) (by omega) (by omega) (by omega) (by omega), gk 5 (by omega) (by omega) (by omega) (by omega) (by omega) (by omega)]) (by rw [xg 67 (by omega) (by omega) (by omega) (by omega) (by omega) (by omega), gk 67 (by omega) (by omega) (by omega) (by omega) (by omega) (by omega)])
    · exact g.2.congr (fun k hk => by rw [xg k (by omega) (by omega) (by omega) (by omega) (by omega) (by omega), gk k (by omega) (by omega) (by omega) (by omega) (by omega) (by omega)])
theorem ag_undo {h : Hp} (g : REL h) : AGR MX7_undo MX8_undo [] h := by
  obtain ⟨hI, r, hl, ap, o, f1, f2, f3⟩ := g.1.1
  have hn := hI.n
  have hm := hI.q
  obtain ⟨y1, y2, y3, y4, y5⟩ := g.1.2.2.2.1
  by_cases hz : h 3 2 = 0
  · exact agr_fn (fun d => c_X7_undo_N (d := d + 17) hz) (fun d => c_X8_undo_N (d := d + 19) rfl (by rw [up_ne (by omega), y2]; exact hz)) (g.t0 (v := 0))
  · generalize hYn : (h 3 2 - 1).toNat = Y
    have Yn : (Y : Int) + 1 = h 3 2 := by omega
    have s1 : ∀ p, p < 8 → h (23 + p) 3 = sumN (scF h p) Y + pos1 (h 22 (8 * Y + p)) := fun p hp => by
      rw [y5 p hp, show (h 3 2).toNat = Y + 1 by omega, sumN]
      rfl
    have scr : ∀ p, p < 8 → 0 ≤ sumN (scF h p) Y ∧ sumN (scF h p) Y ≤ 5 * Y := fun p hp => sum5 Y (fun y hy => pos1_rng (y3 y p (by omega) hp).2.2.1)
    have last : ∀ p, p < 8 → YR h Y p := fun p hp => y3 Y p (by omega) hp
    have c7 := fun d => c_X7_undo (d := d + 17) hI ⟨by omega, y1.2⟩ (by
      rw [hYn]
      intro p hp
      obtain ⟨q1, q2, q3, q4, q5⟩ := last p hp
      refine ⟨q3.1, q3.2, fun hpos => ⟨?_, ?_⟩⟩
      · by_cases w : h 66 Y ≤ p
        · have := (q5 w).2; omega
        · omega
      · rw [s1 p hp]
        have := scr p hp
        unfold pos1
        rw [if_pos hpos]
        omega)
    generalize hb : UNi h 8 = b at c7
    have bo : ∀ a c, ¬ (a = 4 ∧ c < 8) → ¬ (23 ≤ a ∧ a < 31 ∧ c = 3) → ¬ (a = 3 ∧ c = 2) → b a c = h a c := fun a c h1 h2 h3 => by
      rw [← hb]
      unfold UNi
      rw [if_neg h1, if_neg (by omega), up_ne h3]
    have b4 : ∀ p, p < 8 → b 4 p = h 21 (8 * Y + p) := fun p hp => by
      rw [← hb]
      unfold UNi
      rw [if_pos ⟨rfl, hp⟩, hYn]
    have b3 : ∀ p, p < 8 → b (23 + p) 3 = h (23 + p) 3 - pos1 (h 22 (8 * Y + p)) := fun p hp => by
      rw [← hb]
      unfold UNi
      rw [if_neg (by omega), if_pos ⟨by omega, by omega, rfl⟩, hYn, show 23 + p - 23 = p by omega]
    have b32 : b 3 2 = h 3 2 - 1 := by
      rw [← hb]
      unfold UNi
      rw [if_neg (by omega), if_neg (by omega), up_same]
    generalize hgg : up b 44 0 0 = gg
    have go : ∀ a c, ¬ (a = 44 ∧ c = 0) → gg a c = b a c := fun a c hh => by rw [← hgg, up_ne hh]
    have g44 : ∀ c, c ≠ 0 → gg 44 c = h 44 c := fun c hc => by rw [go 44 c (by omega)]; exact bo 44 c (by omega) (by omega) (by omega)
    have gk : ∀ a, a ≠ 44 → a ≠ 4 → ¬ (23 ≤ a ∧ a < 31) → a ≠ 3 → gg a = h a := fun a h1 h2 h3 h4 => funext fun c => by rw [go a c (by omega)]; exact bo a c (by omega) (by omega) (by omega)
    have gs : ∀ p c, p < 8 → c ≠ 3 → gg (23 + p) c = h (23 + p) c := fun p c hp hc => by rw [go _ _ (by omega)]; exact bo _ _ (by omega) (by omega) (by omega)
    have e31 : gg 44 31 = h 3 2 := by rw [g44 31 (by omega), y2]
    have c8 := fun d => c_X8_undo (d := d + 19) (h := b) hgg (by rw [g44 1 (by omega), r.n]; exact hn) (by rw [e31]; omega) (by
      rw [e31, hYn, gk 66 (by omega) (by omega) (by omega) (by omega)]
      have := (last 0 (by omega)).1
      omega) (fun p hp => by
      rw [e31, hYn, gk 65 (by omega) (by omega) (by omega) (by omega)]
      exact y4 _ (by omega))
    rw [e31, hYn, g44 1 (by omega), r.n] at c8
    refine agr_fr c7 c8 (fun r2 x hx => ?_)
    obtain ⟨rx, un1, un2⟩ := hx
    have x31 : x 44 31 = h 3 2 - 1 := by rw [un1 44 31 (by omega) (by omega), up_same]
    have xo : ∀ a c, ¬ (a = 49 ∧ c < 8) → ¬ (a = 50 ∧ c < 8) → ¬ (a = 44 ∧ c = 31) → x a c = gg a c := fun a c h1 h2 h3 => by rw [un1 a c (by omega) (by omega), up_ne h3]
    have xg : ∀ a, a ≠ 44 → a ≠ 49 → a ≠ 50 → x a = gg a := fun a h1 h2 h3 => funext fun c => xo a c (by omega) (by omega) (by omega)
    have x44 : ∀ c, c ≠ 31 → x 44 c = gg 44 c := fun c hc => xo 44 c (by omega) (by omega) (by omega)
    have x1 : x 1 = h 1 := (xg 1 (by omega) (by omega) (by omega)).trans (gk 1 (by omega) (by omega) (by omega) (by omega))
    have x3 : x 3 2 = h 3 2 - 1 := by rw [xg 3 (by omega) (by omega) (by omega), go 3 2 (by omega), b32]
    have xk : ∀ a, a ≠ 44 → a ≠ 4 → ¬ (23 ≤ a ∧ a < 31) → a ≠ 3 → a ≠ 49 → a ≠ 50 → x a = h a := fun a h1 h2 h3 h4 h5 h6 => (xg a h1 h5 h6).trans (gk a h1 h2 h3 h4)
    have xs : ∀ p c, p < 8 → c ≠ 3 → x (23 + p) c = h (23 + p) c := fun p c hp hc => by rw [xg _ (by omega) (by omega) (by omega)]; exact gs p c hp hc
    have xs3 : ∀ p, p < 8 → x (23 + p) 3 = sumN (scF h p) Y := fun p hp => by
      rw [xg _ (by omega) (by omega) (by omega), go _ _ (by omega), b3 p hp, s1 p hp]
      omega
    refine ⟨rx, ⟨g.1.1.slot3 x1 (xk 10 (by omega) (by omega) (by omega) (by omega) (by omega) (by omega)) xs (fun p hp => xk _ (by omega) (by omega) (by omega) (by omega) (by omega) (by omega)) (fun q hq => xk _ (by omega) (by omega) (by omega) (by omega) (by omega) (by omega)) (fun k hk => xk _ (by omega) (by omega) (by omega) (by omega) (by omega) (by omega)) ((x44 1 (by omega)).trans (g44 1 (by omega))) ((x44 11 (by omega)).trans (g44 11 (by omega))) (fun p hp => by
        rw [xs3 p hp]
        have := scr p hp
        omega) (fun p h1 h2 => by
        have a := s1 p h2
        rw [(f1 p h1 h2).2.1] at a
        have q5 := ((last p h2).2.2.2.2 (by have := (last p h2).1; omega)).2
        rw [q5] at a
        rw [xs3 p h2]
        unfold pos1 at a
        rw [if_neg (by omega)] at a
        omega), ⟨fun p hp => ?_, fun p hp => ?_⟩, ⟨fun p hp => ?_, fun p h1 h2 => ?_⟩, ⟨by rw [x3]; omega, by rw [x31, x3], fun yy p hy hp => ?_, fun i hi => ?_, fun p hp => ?_⟩, ?_⟩, ?_⟩
    · rw [x1] at hp
      obtain ⟨w1, w2⟩ := g.1.2.1.1 p hp
      have q := un2 p hp
      refine ⟨w1.congr (by rw [x1]) (xk _ (by omega) (by omega) (by omega) (by omega) (by omega) (by omega)) (xs p 2 (by omega) (by decide)) (by rw [xk 47 (by omega) (by omega) (by omega) (by omega) (by omega) (by omega)]) (fun k _ => by rw [xk 48 (by omega) (by omega) (by omega) (by omega) (by omega) (by omega)]), ?_⟩
      have lp := last p (by omega)
      rw [q.2, xs3 p (by omega), up_ob (by decide), up_ob (by decide), up_ob (by decide), gk 49 (by omega) (by omega) (by omega) (by omega), gk 66 (by omega) (by omega) (by omega) (by omega), gk 65 (by omega) (by omega) (by omega) (by omega), w2, s1 p (by omega)]
      split
      · rename_i z
        rw [(lp.2.2.2.1 z).2]
        omega
      · rename_i z
        rw [(lp.2.2.2.2 (by omega)).2]
        unfold pos1
        rw [if_neg (by omega)]
        omega
    · have := g.1.2.1.2 p hp
      unfold WI at this ⊢
      rw [xs p 2 hp (by decide), xk (31 + p) (by omega) (by omega) (by omega) (by omega) (by omega) (by omega)]
      exact this
    · rw [x1] at hp ⊢
      have q := un2 p hp
      have lp := last p (by omega)
      rw [q.1, up_ob (by decide), up_ob (by decide), gk 66 (by omega) (by omega) (by omega) (by omega), gk 64 (by omega) (by omega) (by omega) (by omega), xg 4 (by omega) (by omega) (by omega), go 4 p (by omega), b4 p (by omega)]
      refine ⟨?_, lp.2.1⟩
      split
      · rename_i z; exact (lp.2.2.2.1 z).1
      · rename_i z; exact (lp.2.2.2.2 (by omega)).1.symm
    · rw [x1] at h1
      have lp := last p h2
      rw [xg 4 (by omega) (by omega) (by omega), go 4 p (by omega), b4 p h2]
      exact (lp.2.2.2.2 (by have := lp.1; omega)).1
    · rw [x3] at hy
      have old := y3 yy p (by omega) hp
      unfold YR at old ⊢
      rw [x1, xk 21 (by omega) (by omega) (by omega) (by omega) (by omega) (by omega), xk 22 (by omega) (by omega) (by omega) (by omega) (by omega) (by omega), xk 64 (by omega) (by omega) (by omega) (by omega) (by omega) (by omega), xk 65 (by omega) (by omega) (by omega) (by omega) (by omega) (by omega), xk 66 (by omega) (by omega) (by omega) (by omega) (by omega) (by omega)]
      exact old
    · rw [xk 65 (by omega) (by omega) (by omega) (by omega) (by omega) (by omega)]
      exact y4 i hi
    · rw [xs3 p hp, x3, hYn]
      refine sumN_congr Y (fun i hi => ?_)
      unfold scF
      rw [xk 22 (by omega) (by omega) (by omega) (by omega) (by omega) (by omega)]
    · exact g.1.2.2.2.2.congr (by rw [xk 0 (by omega) (by omega) (by omega) (by omega) (by omega) (by omega)]) ((x44 36 (by omega)).trans (g44 36 (by omega))) (xk 5 (by omega) (by omega) (by omega) (by omega) (by omega) (by omega)) (xk 67 (by omega) (by omega) (by omega) (by omega) (by omega) (by omega))
    · exact g.2.congr (fun k hk => xk k (by omega) (by omega) (by omega) (by omega) (by omega) (by omega))
