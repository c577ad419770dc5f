/-! friends, apart, lots -/
def bitS (s : Nat) (h : Hp) (i j : Nat) : Bool := (h (23 + i) s).toNat.testBit j
def PBT (s k : Nat) (h : Hp) (i j : Nat) : Prop := (bitS s h i j = true ↔ h k (8 * i + j) = 1) ∧ (h k (8 * i + j) = 0 ∨ h k (8 * i + j) = 1) ∧ bitS s h i j = bitS s h j i
theorem fr_PBT {h : Hp} {i j : Nat} : ((frB h i j = true ↔ h 51 (8 * i + j) = 1) ∧ (apB h i j = true ↔ h 52 (8 * i + j) = 1) ∧ (h 51 (8 * i + j) = 0 ∨ h 51 (8 * i + j) = 1) ∧ (h 52 (8 * i + j) = 0 ∨ h 52 (8 * i + j) = 1) ∧ frB h i j = frB h j i ∧ apB h i j = apB h j i) ↔ (PBT 4 51 h i j ∧ PBT 5 52 h i j) :=
  ⟨fun ⟨a, b, c, d, e, f⟩ => ⟨⟨a, c, e⟩, b, d, f⟩, fun ⟨⟨a, c, e⟩, b, d, f⟩ => ⟨a, b, c, d, e, f⟩⟩
theorem pair_ag {h x : Hp} (g : REL h) {s k a b : Nat} {v : Int} (sk : (s = 4 ∧ k = 51) ∨ (s = 5 ∧ k = 52)) (ha : a < (h 1 3).toNat) (hb : b < (h 1 3).toNat) (hab : a ≠ b) (hv : v = 0 ∨ v = 1) (hx : up (up (up (pairB h s a b v) 44 0 0) k (8 * a + b) v) k (8 * b + a) v = x) : REL x := by
  obtain ⟨hI, r, hl, ap, o, f1, f2, f3⟩ := g.1.1
  have hn := hI.n
  have hm := hI.q
  have sv : s = 4 ∨ s = 5 := by omega
  have sr5 : ∀ p, p < 8 → 0 ≤ h (23 + p) s ∧ h (23 + p) s ≤ 255 := fun p hp => by
    have := hI.pu hp
    rcases sv with rfl | rfl
    · exact this.2.2.2.1
    · exact this.2.2.2.2.1
  have wa := wbN_lt (g := (h (23 + a) s).toNat) (i := b) (b := v) (by have := sr5 a (by omega); omega) (by omega)
  have wb := wbN_lt (g := (h (23 + b) s).toNat) (i := a) (b := v) (by have := sr5 b (by omega); omega) (by omega)
  have xo : ∀ c d, ¬ (c = 23 + a ∧ d = s) → ¬ (c = 23 + b ∧ d = s) → ¬ (c = 44 ∧ d = 0) → c ≠ k → x c d = h c d := fun c d h1 h2 h3 h4 => by
    rw [← hx, up_ob h4, up_ob h4, up_ne h3]
    unfold pairB
    rw [up_ne h2, up_ne h1]
  have xob : ∀ c, ¬ (23 ≤ c ∧ c < 31) → c ≠ 44 → c ≠ k → x c = h c := fun c h1 h2 h3 => funext fun d => xo c d (by omega) (by omega) (by omega) h3
  have xs : ∀ i, i < 8 → x (23 + i) s = if i = b then (wbN (h (23 + b) s).toNat a v : Int) else if i = a then (wbN (h (23 + a) s).toNat b v : Int) else h (23 + i) s := fun i hi => by
    rw [← hx, up_ob (by omega), up_ob (by omega), up_ne (by omega)]
    unfold pairB
    by_cases h1 : i = b
    · subst h1; rw [up_same, if_pos rfl]
    · rw [up_ne (by omega), if_neg h1]
      by_cases h2 : i = a
      · subst h2; rw [up_same, if_pos rfl]
      · rw [up_ne (by omega), if_neg h2]
  have xk : ∀ i j, i < 8 → j < 8 → x k (8 * i + j) = if (i = a ∧ j = b) ∨ (i = b ∧ j = a) then v else h k (8 * i + j) := fun i j hi hj => by
    rw [← hx]
    by_cases h1 : i = b ∧ j = a
    · obtain ⟨rfl, rfl⟩ := h1; rw [up_same, if_pos (Or.inr ⟨rfl, rfl⟩)]
    · rw [up_ne (by omega)]
      by_cases h2 : i = a ∧ j = b
      · obtain ⟨rfl, rfl⟩ := h2; rw [up_same, if_pos (Or.inl ⟨rfl, rfl⟩)]
      · rw [up_ne (by omega), if_neg (by omega), up_ne (by omega)]
        unfold pairB
        rw [up_ob (by omega), up_ob (by omega)]
  have xb : ∀ i j, i < 8 → j < 8 → bitS s x i j = if (i = a ∧ j = b) ∨ (i = b ∧ j = a) then decide (v ≠ 0) else bitS s h i j := fun i j hi hj => by
    unfold bitS
    rw [xs i hi]
    by_cases h1 : i = b
    · rw [if_pos h1, Int.toNat_natCast, wbN_bit (by have := sr5 b (by omega); omega) (by omega)]
      by_cases h2 : j = a
      · rw [if_pos h2, if_pos (Or.inr ⟨h1, h2⟩)]
      · rw [if_neg h2, if_neg (by omega), h1]
    · rw [if_neg h1]
      by_cases h3 : i = a
      · rw [if_pos h3, Int.toNat_natCast, wbN_bit (by have := sr5 a (by omega); omega) (by omega)]
        by_cases h2 : j = b
        · rw [if_pos h2, if_pos (Or.inl ⟨h3, h2⟩)]
        · rw [if_neg h2, if_neg (by omega), h3]
      · rw [if_neg h3, if_neg (by omega)]
  have e1 := xob 1 (by omega) (by omega) (by omega)
  have pb : ∀ i j, i < 8 → j < 8 → PBT s k h i j → PBT s k x i j := fun i j hi hj ⟨p1, p2, p3⟩ => by
    unfold PBT
    rw [xb i j hi hj, xb j i hj hi, xk i j hi hj]
    by_cases z : (i = a ∧ j = b) ∨ (i = b ∧ j = a)
    · rw [if_pos z, if_pos z, if_pos (by omega)]
      exact ⟨by simp only [decide_eq_true_eq]; omega, hv, rfl⟩
    · rw [if_neg z, if_neg z, if_neg (by omega)]
      exact ⟨p1, p2, p3⟩
  have pbo : ∀ s' k', (s' = 4 ∧ k' = 51) ∨ (s' = 5 ∧ k' = 52) → s' ≠ s → ∀ i j, i < 8 → j < 8 → PBT s' k' h i j → PBT s' k' x i j := fun s' k' hsk hne i j hi hj p => by
    unfold PBT bitS
    rw [xo (23 + i) s' (by omega) (by omega) (by omega) (by omega), xo (23 + j) s' (by omega) (by omega) (by omega) (by omega), xob k' (by omega) (by omega) (by omega)]
    exact p
  have pall : ∀ i j, i < (h 1 3).toNat → j < (h 1 3).toNat → PBT 4 51 x i j ∧ PBT 5 52 x i j := fun i j hi hj => by
    obtain ⟨q1, q2⟩ := fr_PBT.mp (r.fr hi hj)
    rcases sk with ⟨rfl, rfl⟩ | ⟨rfl, rfl⟩
    · exact ⟨pb i j (by omega) (by omega) q1, pbo 5 52 (Or.inr ⟨rfl, rfl⟩) (by decide) i j (by omega) (by omega) q2⟩
    · exact ⟨pbo 4 51 (Or.inl ⟨rfl, rfl⟩) (by decide) i j (by omega) (by omega) q1, pb i j (by omega) (by omega) q2⟩
  have xI : RI x := by
    have i1 : RI (up h (23 + a) s (wbN (h (23 + a) s).toNat b v : Nat)) := RI_pu hI (by omega) (Or.inr ⟨sv, by omega, by omega⟩)
    have i2 : RI (pairB h s a b v) := RI_pu i1 (by omega) (Or.inr ⟨sv, by omega, by omega⟩)
    exact i2.congr (fun c hc => by rw [← hx]; exact (up_obf (by omega)).trans ((up_obf (by omega)).trans (up_obf (by omega))))
  refine ⟨⟨⟨xI, ?_, ?_, ?_, ?_, ?_, ?_, ?_⟩, g.1.2.1.congr2 hI (by rw [e1]) (by rw [e1]) (fun q hq => ⟨xo _ _ (by omega) (by omega) (by omega) (by omega), xo _ _ (by omega) (by omega) (by omega) (by omega), xob _ (by omega) (by omega) (by omega)⟩) (xob 47 (by omega) (by omega) (by omega)) (xob 48 (by omega) (by omega) (by omega)) (xob 49 (by omega) (by omega) (by omega)), g.1.2.2.1.congr e1 (xob 4 (by omega) (by omega) (by omega)) (xob 50 (by omega) (by omega) (by omega)), g.1.2.2.2.1.congr e1 (xob 3 (by omega) (by omega) (by omega)) (xo 44 31 (by omega) (by omega) (by omega) (by omega)) (fun k hk => xob k (by omega) (by omega) (by omega)) (fun q hq => xo _ _ (by omega) (by omega) (by omega) (by omega)), g.1.2.2.2.2.congr (xo 0 7 (by omega) (by omega) (by omega) (by omega)) (xo 44 36 (by omega) (by omega) (by omega) (by omega)) (xob 5 (by omega) (by omega) (by omega)) (xob 67 (by omega) (by omega) (by omega))⟩, g.2.congr (fun k hk => xob k (by omega) (by omega) (by omega))⟩
  · obtain ⟨r1, r2, r3, r4, r5, r6⟩ := r
    refine ⟨by rw [xo 44 1 (by omega) (by omega) (by omega) (by omega), e1]; exact r1, by rw [xo 44 11 (by omega) (by omega) (by omega) (by omega), e1]; exact r2, fun q hq => ?_, fun i j hi hj => ?_, fun q hq => ?_, fun j hj => ?_⟩
    · rw [e1] at hq
      rw [xob 45 (by omega) (by omega) (by omega), xob 46 (by omega) (by omega) (by omega), xo (23 + q) 1 (by omega) (by omega) (by omega) (by omega), xo (23 + q) 6 (by omega) (by omega) (by omega) (by omega)]
      exact r3 q hq
    · rw [e1] at hi hj
      exact fr_PBT.mpr (pall i j hi hj)
    · rw [e1] at hq
      rw [xob 54 (by omega) (by omega) (by omega), xob 55 (by omega) (by omega) (by omega), xob 56 (by omega) (by omega) (by omega), xob 57 (by omega) (by omega) (by omega), xob 58 (by omega) (by omega) (by omega), xob 59 (by omega) (by omega) (by omega), xob (39 + q) (by omega) (by omega) (by omega)]
      exact r5 q hq
    · rw [e1] at hj
      rw [xob 53 (by omega) (by omega) (by omega), xob 10 (by omega) (by omega) (by omega), e1]
      exact r6 j hj
  · intro q hq h3
    rw [e1] at hq
    rw [xob (39 + q) (by omega) (by omega) (by omega)] at h3 ⊢
    rw [e1]
    exact hl q hq h3
  · intro i hi
    rw [e1] at hi
    rcases sk with ⟨rfl, rfl⟩ | ⟨rfl, rfl⟩
    · have := ap i hi
      unfold apB at this ⊢
      rw [xo (23 + i) 5 (by omega) (by omega) (by omega) (by omega)]
      exact this
    · have := xb i i (by omega) (by omega)
      rw [if_neg (by omega)] at this
      exact this.trans (ap i hi)
  · unfold OPM
    rw [e1, xob 10 (by omega) (by omega) (by omega)]
    exact o
  · intro q h1 h2
    rw [e1] at h1
    have f := f1 q h1 h2
    rw [xob (31 + q) (by omega) (by omega) (by omega), xo (23 + q) 2 (by omega) (by omega) (by omega) (by omega), xo (23 + q) 3 (by omega) (by omega) (by omega) (by omega), xo (23 + q) 4 (by omega) (by omega) (by omega) (by omega), xo (23 + q) 5 (by omega) (by omega) (by omega) (by omega), xo (23 + q) 6 (by omega) (by omega) (by omega) (by omega)]
    exact f
  · intro i j hi hj hij
    rw [e1] at hij
    obtain ⟨q1, q2, q3, q4⟩ := f2 i j hi hj hij
    have nb : ¬ ((i = a ∧ j = b) ∨ (i = b ∧ j = a)) := by omega
    have y1 := xb i j hi hj
    have y2 := xk i j hi hj
    rw [if_neg nb] at y1 y2
    rcases sk with ⟨rfl, rfl⟩ | ⟨rfl, rfl⟩
    · exact ⟨y2.trans q1, by rw [xob 52 (by omega) (by omega) (by omega)]; exact q2, y1.trans q3, by unfold apB at q4 ⊢; rw [xo (23 + i) 5 (by omega) (by omega) (by omega) (by omega)]; exact q4⟩
    · exact ⟨by rw [xob 51 (by omega) (by omega) (by omega)]; exact q1, y2.trans q2, by unfold frB at q3 ⊢; rw [xo (23 + i) 4 (by omega) (by omega) (by omega) (by omega)]; exact q3, y1.trans q4⟩
  · intro q h1 h2
    rw [e1] at h1
    rw [xob (39 + q) (by omega) (by omega) (by omega)]
    exact f3 q h1 h2
theorem ag_friends {h : Hp} (g : REL h) {a b v : Int} (ha : rng a) (hb : rng b) (hv : v = 0 ∨ v = 1) : AGR MX7_friends MX8_friends [mI a, mI b, mI v] h := by
  have hI := g.1.1.1
  have hn := hI.n
  have en : h 44 1 = h 1 3 := g.1.1.2.1.n
  by_cases ok : inN h a ∧ inN h b ∧ a ≠ b
  · obtain ⟨⟨a1, a2⟩, ⟨b1, b2⟩, ab⟩ := ok
    have c7 := fun d => c_X7_friends (d := d + 18) hI (a := a) (b := b) (x := v) ⟨a1, a2⟩ ⟨b1, b2⟩ ab (by constructor <;> omega)
    generalize hi : a.toNat = i at c7
    generalize hj : b.toNat = j at c7
    have eg : up (pairB h 4 i j v) 44 0 0 44 1 = h 1 3 := by rw [up_ne (by omega)]; unfold pairB; rw [up_ob (by omega), up_ob (by omega), en]
    have c8 := fun d => c_X8_friends (d := d + 17) (h := pairB h 4 i j v) (g := up (pairB h 4 i j v) 44 0 0) (a := i) (b := j) (x := v) rfl (by rw [eg]; exact hn) (by rw [eg]; omega) (by rw [eg]; omega) (by omega) hv
    rw [show ((i : Nat) : Int) = a by omega, show ((j : Nat) : Int) = b by omega] at c8
    exact agr_fn c7 c8 (pair_ag g (Or.inl ⟨rfl, rfl⟩) (by omega) (by omega) (by omega) hv rfl)
  · exact agr_fn (fun d => c_X7_friends_N (d := d + 18) hI ha hb ok) (fun d => c_X8_friends_N (d := d + 17) rfl (by rw [up_ne (by omega)]; omega) ha hb (by rw [up_ne (by omega), en]; exact ok)) (g.t0 (v := 0))
theorem ag_apart {h : Hp} (g : REL h) {a b v : Int} (ha : rng a) (hb : rng b) (hv : v = 0 ∨ v = 1) : AGR MX7_apart MX8_apart [mI a, mI b, mI v] h := by
  have hI := g.1.1.1
  have hn := hI.n
  have en : h 44 1 = h 1 3 := g.1.1.2.1.n
  by_cases ok : inN h a ∧ inN h b ∧ a ≠ b
  · obtain ⟨⟨a1, a2⟩, ⟨b1, b2⟩, ab⟩ := ok
    have c7 := fun d => c_X7_apart (d := d + 18) hI (a := a) (b := b) (x := v) ⟨a1, a2⟩ ⟨b1, b2⟩ ab (by constructor <;> omega)
    generalize hi : a.toNat = i at c7
    generalize hj : b.toNat = j at c7
    have eg : up (pairB h 5 i j v) 44 0 0 44 1 = h 1 3 := by rw [up_ne (by omega)]; unfold pairB; rw [up_ob (by omega), up_ob (by omega), en]
    have c8 := fun d => c_X8_apart (d := d + 17) (h := pairB h 5 i j v) (g := up (pairB h 5 i j v) 44 0 0) (a := i) (b := j) (x := v) rfl (by rw [eg]; exact hn) (by rw [eg]; omega) (by rw [eg]; omega) (by omega) hv
    rw [show ((i : Nat) : Int) = a by omega, show ((j : Nat) : Int) = b by omega] at c8
    exact agr_fn c7 c8 (pair_ag g (Or.inr ⟨rfl, rfl⟩) (by omega) (by omega) (by omega) hv rfl)
  · exact agr_fn (fun d => c_X7_apart_N (d := d + 18) hI ha hb ok) (fun d => c_X8_apart_N (d := d + 17) rfl (by rw [up_ne (by omega)]; omega) ha hb (by rw [up_ne (by omega), en]; exact ok)) (g.t0 (v := 0))
/-! lots -/
theorem lots_perm {n : Nat} (h8 : n ≤ 8) : ∀ (i : Nat) (r : Int) (f : Nat → Int), i < n → PF f n ∧ INJ f n → PF (lotsF i r f) n ∧ INJ (lotsF i r f) n
  | 0, _, _, _, h => h
  | i + 1, r, f, hi, h => by
    have j := lotJ_rng (nxtR r) (i := i + 1) (by omega)
    rw [lotsF]
    exact lots_perm h8 i _ _ (by omega) ⟨PF_sw h.1 hi (by omega), INJ_sw h.2 hi (by omega)⟩
theorem lots_congr {n : Nat} (h8 : n ≤ 8) : ∀ (i : Nat) (r : Int) (f g : Nat → Int), i < n → (∀ x, x < n → f x = g x) → ∀ x, x < n → lotsF i r f x = lotsF i r g x
  | 0, _, _, _, _, h => h
  | i + 1, r, f, g, hi, h => by
    have j := lotJ_rng (nxtR r) (i := i + 1) (by omega)
    rw [lotsF, lotsF]
    exact lots_congr h8 i _ _ _ (by omega) (swF_congr h hi (by omega))
theorem lots_out {n : Nat} (h8 : n ≤ 8) : ∀ (i : Nat) (r : Int) (f : Nat → Int), i < n → ∀ x, n ≤ x → lotsF i r f x = f x
  | 0, _, _, _, _, _ => rfl
  | i + 1, r, f, hi, x, hx => by
    have j := lotJ_rng (nxtR r) (i := i + 1) (by omega)
    rw [lotsF, lots_out h8 i _ _ (by omega) x hx]
    unfold swF
    rw [if_neg (by omega), if_neg (by omega)]
theorem ag_lots {h : Hp} (g : REL h) {s : Int} : AGR MX7_lots MX8_lots [mI s] h := by
  obtain ⟨hI, r, hl, ap, o, f1, f2, f3⟩ := g.1.1
  have hn := hI.n
  have hm := hI.q
  have en : h 44 1 = h 1 3 := r.n
  have c7 := fun d => c_X7_lots (d := d + 18) (r := s) hI
  generalize hF : lotsF ((h 1 3).toNat - 1) s (idF (h 10) (h 1 3).toNat) = F at c7
  have c8 := fun d => c_X8_lots (d := d + 20) (h := setR h 10 F) (g := up (setR h 10 F) 44 0 0) (r := s) rfl (by rw [up_ne (by omega), setR_ne (by decide)]; omega)
  have e1' : up (setR h 10 F) 44 0 0 44 1 = h 1 3 := by rw [up_ne (by omega), setR_ne (by decide)]; exact en
  have e53 : up (setR h 10 F) 44 0 0 53 = h 53 := by rw [up_obf (by decide), setR_ne (by decide)]
  rw [e1', e53] at c8
  generalize hF2 : lotsF ((h 1 3).toNat - 1) s (idF (h 53) (h 1 3).toNat) = F2 at c8
  have agree : ∀ i, i < (h 1 3).toNat → F2 i = F i := fun i hi => by
    rw [← hF, ← hF2]
    exact lots_congr (n := (h 1 3).toNat) (by omega) _ _ _ _ (by omega) (fun x hx => by unfold idF; rw [if_pos hx, if_pos hx]) i hi
  have perm : 0 < (h 1 3).toNat → PF F (h 1 3).toNat ∧ INJ F (h 1 3).toNat := fun h0 => by
    rw [← hF]
    refine lots_perm (by omega) _ _ _ (by omega) ⟨⟨fun i hi => by unfold idF; rw [if_pos hi]; omega, fun j hj => ⟨j, hj, by unfold idF; rw [if_pos hj]⟩⟩, fun i j hi hj e => by unfold idF at e; rw [if_pos hi, if_pos hj] at e; omega⟩
  have out : ∀ i, (h 1 3).toNat ≤ i → F i = h 10 i := fun i hi => by
    rw [← hF]
    by_cases h0 : 0 < (h 1 3).toNat
    · rw [lots_out (n := (h 1 3).toNat) (by omega) _ _ _ (by omega) i hi]
      unfold idF
      rw [if_neg (by omega)]
    · rw [show (h 1 3).toNat - 1 = 0 by omega]
      show idF (h 10) (h 1 3).toNat i = _
      unfold idF
      rw [if_neg (by omega)]
  refine agr_fn c7 c8 ?_
  generalize hx : setR (up (setR h 10 F) 44 0 0) 53 F2 = x
  have x10 : x 10 = F := by rw [← hx, setR_ne (by decide), up_obf (by decide), setR_same]
  have x53 : x 53 = F2 := by rw [← hx, setR_same]
  have xo : ∀ a b, a ≠ 10 → a ≠ 53 → ¬ (a = 44 ∧ b = 0) → x a b = h a b := fun a b h1 h2 h3 => by rw [← hx, setR_ne h2, up_ne h3, setR_ne h1]
  have xob : ∀ a, a ≠ 10 → a ≠ 53 → a ≠ 44 → x a = h a := fun a h1 h2 h3 => funext fun b => xo a b h1 h2 (fun z => h3 z.1)
  have e1 := xob 1 (by omega) (by omega) (by omega)
  have xp : ∀ p, p < 8 → x (23 + p) = h (23 + p) ∧ x (31 + p) = h (31 + p) := fun p hp => ⟨xob _ (by omega) (by omega) (by omega), xob _ (by omega) (by omega) (by omega)⟩
  have Fr8 : ∀ i, i < (h 1 3).toNat → 0 ≤ F i ∧ F i < h 1 3 := fun i hi => by
    have := (perm (by omega)).1.1 i hi
    omega
  refine ⟨⟨⟨?_, ?_, ?_, ?_, ?_, ?_, ?_, ?_⟩, g.1.2.1.congr hI e1 xp (xob 47 (by omega) (by omega) (by omega)) (xob 48 (by omega) (by omega) (by omega)) (xob 49 (by omega) (by omega) (by omega)), g.1.2.2.1.congr e1 (xob 4 (by omega) (by omega) (by omega)) (xob 50 (by omega) (by omega) (by omega)), g.1.2.2.2.1.congr e1 (xob 3 (by omega) (by omega) (by omega)) (xo 44 31 (by omega) (by omega) (by omega)) (fun k hk => xob k (by omega) (by omega) (by omega)) (fun q hq => xo _ _ (by omega) (by omega) (by omega)), g.1.2.2.2.2.congr (xo 0 7 (by omega) (by omega) (by omega)) (xo 44 36 (by omega) (by omega) (by omega)) (xob 5 (by omega) (by omega) (by omega)) (xob 67 (by omega) (by omega) (by omega))⟩, g.2.congr (fun k hk => xob k (by omega) (by omega) (by omega))⟩
  · obtain ⟨a1, a2, a3, a4, a5⟩ := id hI
    refine ⟨by rw [e1]; exact a1, by rw [e1]; exact a2, fun p hp => ?_, fun q hq => ?_, fun i hi => ?_⟩
    · unfold PUOK
      rw [(xp p hp).1, (xp p hp).2]
      exact a3 p hp
    · unfold PROK
      rw [xob (39 + q) (by omega) (by omega) (by omega)]
      exact a4 q hq
    · rw [x10]
      by_cases z : i < (h 1 3).toNat
      · have := Fr8 i z
        constructor <;> omega
      · rw [out i (by omega)]; exact a5 i hi
  · obtain ⟨r1, r2, r3, r4, r5, r6⟩ := r
    refine ⟨by rw [xo 44 1 (by omega) (by omega) (by omega), e1]; exact r1, by rw [xo 44 11 (by omega) (by omega) (by omega), e1]; exact r2, fun q hq => ?_, fun a b ha hb => ?_, fun q hq => ?_, fun j hj => ?_⟩
    · rw [e1] at hq
      rw [xob 45 (by omega) (by omega) (by omega), xob 46 (by omega) (by omega) (by omega), (xp q (by omega)).1]
      exact r3 q hq
    · rw [e1] at ha hb
      unfold frB apB
      rw [(xp a (by omega)).1, (xp b (by omega)).1, xob 51 (by omega) (by omega) (by omega), xob 52 (by omega) (by omega) (by omega)]
      exact r4 a b ha hb
    · rw [e1] at hq
      rw [xob 54 (by omega) (by omega) (by omega), xob 55 (by omega) (by omega) (by omega), xob 56 (by omega) (by omega) (by omega), xob 57 (by omega) (by omega) (by omega), xob 58 (by omega) (by omega) (by omega), xob 59 (by omega) (by omega) (by omega), xob (39 + q) (by omega) (by omega) (by omega)]
      exact r5 q hq
    · rw [e1] at hj
      rw [x53, x10, e1]
      exact ⟨agree j hj, Fr8 j hj⟩
  · intro q hq h3
    rw [e1] at hq
    rw [xob (39 + q) (by omega) (by omega) (by omega)] at h3 ⊢
    rw [e1]
    exact hl q hq h3
  · intro a ha
    rw [e1] at ha
    unfold apB
    rw [(xp a (by omega)).1]
    exact ap a ha
  · refine ⟨fun i hi => ?_, fun p hp => ?_, fun i j hi hj e => ?_⟩
    · rw [e1] at hi ⊢
      rw [x10]
      exact Fr8 i hi
    · rw [e1] at hp ⊢
      rw [x10]
      exact (perm (by omega)).1.2 p hp
    · rw [e1] at hi hj
      rw [x10] at e
      exact (perm (by omega)).2 i j hi hj e
  · intro q h1 h2
    rw [e1] at h1
    rw [(xp q h2).1, (xp q h2).2]
    exact f1 q h1 h2
  · intro a b ha hb hab
    rw [e1] at hab
    unfold frB apB
    rw [(xp a ha).1, xob 51 (by omega) (by omega) (by omega), xob 52 (by omega) (by omega) (by omega)]
    exact f2 a b ha hb hab
  · intro q h1 h2
    rw [e1] at h1
    rw [xob (39 + q) (by omega) (by omega) (by omega)]
    exact f3 q h1 h2
