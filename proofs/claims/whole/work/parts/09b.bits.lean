-- bits: groups of PUPILS and sets of skills are numbers below 256
theorem cast_toNat' {z : Int} (h : 0 ≤ z) : z = ((z.toNat : Nat) : Int) := by omega
theorem oi_nat (n : Nat) : Int32.ofInt (n : Int) = nI n := rfl
theorem ol_nat (n : Nat) : Int64.ofInt (n : Int) = lN n := rfl
theorem bb_and (a b : Nat) : nI a &&& nI b = nI (a &&& b) := by
  apply Int32.toBitVec_inj.1
  show BitVec.ofNat 32 a &&& BitVec.ofNat 32 b = BitVec.ofNat 32 (a &&& b)
  apply BitVec.eq_of_getLsbD_eq
  intro i hi
  simp [hi]
theorem bb_or (a b : Nat) : nI a ||| nI b = nI (a ||| b) := by
  apply Int32.toBitVec_inj.1
  show BitVec.ofNat 32 a ||| BitVec.ofNat 32 b = BitVec.ofNat 32 (a ||| b)
  apply BitVec.eq_of_getLsbD_eq
  intro i hi
  simp [hi]
theorem bb_s31 : ∀ n, n < 32 → ((nI n &&& 31).toBitVec.smod 32).toNat = n := by decide +kernel
theorem bb_lt_or {a b k : Nat} (ha : a < 2 ^ k) (hb : b < 2 ^ k) : a ||| b < 2 ^ k := Nat.or_lt_two_pow ha hb
theorem bb_lt_and {a b k : Nat} (ha : a < 2 ^ k) : a &&& b < 2 ^ k := Nat.lt_of_le_of_lt Nat.and_le_left ha
theorem band_nat {a b : Nat} (ha : a < 2 ^ 31) : band a b = ((a &&& b : Nat) : Int) := by
  unfold band
  rw [oi_nat, oi_nat, bb_and, nI_toInt (bb_lt_and ha)]
theorem bor_nat {a b : Nat} (ha : a < 2 ^ 31) (hb : b < 2 ^ 31) : bor a b = ((a ||| b : Nat) : Int) := by
  unfold bor
  rw [oi_nat, oi_nat, bb_or, nI_toInt (bb_lt_or ha hb)]
theorem bshl_nat {a i : Nat} (hi : i < 32) (h : a * 2 ^ i < 2 ^ 31) : bshl a i = ((a * 2 ^ i : Nat) : Int) := by
  unfold bshl
  rw [oi_nat, oi_nat, pk_shlN _ i (bb_s31 i hi) (by omega), nI_toInt h]
theorem bshr_nat {a i : Nat} (ha : a < 2 ^ 31) (hi : i < 32) : bshr a i = ((a / 2 ^ i : Nat) : Int) := by
  unfold bshr
  rw [oi_nat, oi_nat, pk_shrN ha _ i (bb_s31 i hi), nI_toInt (Nat.lt_of_le_of_lt (Nat.div_le_self _ _) ha)]
/-- 1 << i -/
theorem bit1 {i : Nat} (hi : i < 8) : bshl 1 i = ((2 ^ i : Nat) : Int) := by
  have := bshl_nat (a := 1) (i := i) (by omega) (by
    have : 2 ^ i < 2 ^ 8 := Nat.pow_lt_pow_right (by decide) hi
    omega)
  rw [Nat.one_mul] at this
  exact this
/-- g >> i & 1 -/
theorem bitq {g i : Nat} (hg : g < 2 ^ 31) (hi : i < 32) : band (bshr g i) 1 = if g.testBit i then 1 else 0 := by
  rw [bshr_nat hg hi]
  have := band_nat (a := g / 2 ^ i) (b := 1) (Nat.lt_of_le_of_lt (Nat.div_le_self _ _) hg)
  rw [show ((1 : Nat) : Int) = 1 from rfl] at this
  rw [this, Nat.and_one_is_mod, Nat.testBit_eq_decide_div_mod_eq]
  rcases Nat.mod_two_eq_zero_or_one (g / 2 ^ i) with h | h <;> rw [h] <;> rfl
theorem pow8 {i : Nat} (hi : i < 8) : 2 ^ i < 256 := Nat.lt_of_lt_of_le (Nat.pow_lt_pow_right (by decide) hi) (by decide)
/-- the set of the i below n with f -/
def bs (f : Nat → Bool) : Nat → Nat
  | 0 => 0
  | n + 1 => bs f n ||| (if f n then 2 ^ n else 0)
theorem bs_bit (f : Nat → Bool) : ∀ n i, (bs f n).testBit i = (decide (i < n) && f i)
  | 0, i => by simp [bs]
  | n + 1, i => by
    rw [bs, Nat.testBit_or, bs_bit f n i]
    by_cases e : i = n
    · subst e
      cases h : f i <;> simp
    · have h1 : (if f n then 2 ^ n else 0).testBit i = false := by
        split
        · rw [Nat.testBit_two_pow]
          simp [Ne.symm e]
        · simp
      rw [h1]
      have : (decide (i < n + 1)) = decide (i < n) := by
        apply decide_eq_decide.mpr
        omega
      simp [this]
theorem bs_lt (f : Nat → Bool) : ∀ n, bs f n < 2 ^ n
  | 0 => by simp [bs]
  | n + 1 => by
    have := bs_lt f n
    rw [bs]
    refine bb_lt_or (Nat.lt_trans this (Nat.pow_lt_pow_right (by decide) (by omega))) ?_
    split
    · exact Nat.pow_lt_pow_right (by decide) (by omega)
    · exact Nat.two_pow_pos _
theorem bs_lt8 (f : Nat → Bool) {n : Nat} (h : n ≤ 8) : bs f n < 256 := Nat.lt_of_lt_of_le (bs_lt f n) (Nat.pow_le_pow_right (by decide) h)
theorem bs_congr {f g : Nat → Bool} : ∀ n, (∀ i, i < n → f i = g i) → bs f n = bs g n
  | 0, _ => rfl
  | n + 1, h => by rw [bs, bs, bs_congr n (fun i hi => h i (by omega)), h n (by omega)]
/-- how many bits a set below 256 has -/
def bcnt (g : Nat) : Nat := ((List.range 8).filter (fun i => g.testBit i)).length
/-- how many i below n have f -/
def cntF (f : Nat → Bool) : Nat → Nat
  | 0 => 0
  | n + 1 => cntF f n + (if f n then 1 else 0)
theorem cntF_le (f : Nat → Bool) : ∀ n, cntF f n ≤ n
  | 0 => Nat.le_refl _
  | n + 1 => by
    have := cntF_le f n
    rw [cntF]
    split <;> omega
theorem cntF_congr {f g : Nat → Bool} : ∀ n, (∀ i, i < n → f i = g i) → cntF f n = cntF g n
  | 0, _ => rfl
  | n + 1, h => by rw [cntF, cntF, cntF_congr n (fun i hi => h i (by omega)), h n (by omega)]
theorem cntF_filter (f : Nat → Bool) : ∀ n, ((List.range n).filter f).length = cntF f n
  | 0 => rfl
  | n + 1 => by
    rw [List.range_succ, List.filter_append, List.length_append, cntF_filter f n, cntF]
    cases h : f n <;> simp [h]
theorem bcnt_eq (g : Nat) : bcnt g = cntF (fun i => g.testBit i) 8 := cntF_filter _ 8
theorem cntF_ext (f : Nat → Bool) : ∀ (k n : Nat), (∀ i, n ≤ i → f i = false) → cntF f (n + k) = cntF f n
  | 0, _, _ => rfl
  | k + 1, n, h => by
    rw [← Nat.add_assoc, cntF, cntF_ext f k n h, h (n + k) (by omega)]
    simp
theorem bcnt_bs (f : Nat → Bool) {n : Nat} (h : n ≤ 8) : bcnt (bs f n) = cntF f n := by
  rw [bcnt_eq]
  have h1 : cntF (fun i => (bs f n).testBit i) (n + (8 - n)) = cntF (fun i => (bs f n).testBit i) n := cntF_ext _ _ _ (fun i hi => by
    rw [bs_bit]
    simp [show ¬ i < n by omega])
  rw [show n + (8 - n) = 8 by omega] at h1
  rw [h1]
  exact cntF_congr n (fun i hi => by rw [bs_bit]; simp [hi])
theorem ext_bits {a b : Nat} (h : ∀ i, a.testBit i = b.testBit i) : a = b := Nat.eq_of_testBit_eq h
theorem big_bit {g i : Nat} (hg : g < 256) (hi : 8 ≤ i) : g.testBit i = false := by
  apply Nat.testBit_lt_two_pow
  exact Nat.lt_of_lt_of_le hg (show 2 ^ 8 ≤ 2 ^ i from Nat.pow_le_pow_right (by decide) hi)
theorem ext8 {a b : Nat} (ha : a < 256) (hb : b < 256) (h : ∀ i, i < 8 → a.testBit i = b.testBit i) : a = b := by
  apply ext_bits
  intro i
  by_cases hi : i < 8
  · exact h i hi
  · rw [big_bit ha (by omega), big_bit hb (by omega)]
/-- what is asked for and not had: s & ~t -/
theorem band_not {s t : Nat} (hs : s < 256) (ht : t < 256) : band s (bxor t (-1)) = 0 ↔ ∀ b, b < 8 → s.testBit b = true → t.testBit b = true := by
  have e : band s (bxor t (-1)) = ((s &&& (255 - t) : Nat) : Int) := by
    have h1 : ∀ t, t < 256 → Int32.ofInt (bxor (t : Nat) (-1)) &&& 255 = nI (255 - t) := by decide +kernel
    have h2 : (Int32.ofInt (s : Int)) = nI s &&& 255 := by
      rw [oi_nat, show (255 : Int32) = nI 255 from rfl, bb_and]
      have : s &&& 255 = s := by
        have := Nat.and_two_pow_sub_one_of_lt_two_pow (n := 8) (x := s) hs
        exact this
      rw [this]
    unfold band
    rw [h2, Int32.and_assoc, Int32.and_comm 255, h1 t ht, bb_and, nI_toInt (bb_lt_and (Nat.lt_trans hs (by decide)))]
  have hb : ∀ t, t < 256 → ∀ b, b < 8 → (255 - t).testBit b = !t.testBit b := by decide +kernel
  rw [e]
  constructor
  · intro h b hb8 hsb
    have h0 : (s &&& (255 - t)) = 0 := by omega
    have := congrArg (fun z => z.testBit b) h0
    simp only [Nat.testBit_and, Nat.zero_testBit, hsb, Bool.true_and, hb t ht b hb8] at this
    simpa using this
  · intro h
    have : s &&& (255 - t) = 0 := by
      apply ext8 (Nat.lt_of_le_of_lt Nat.and_le_left hs) (by decide)
      intro b hb8
      rw [Nat.testBit_and, hb t ht b hb8, Nat.zero_testBit]
      cases h1 : s.testBit b
      · rfl
      · rw [h b hb8 h1]; rfl
    rw [this]
    rfl
/-- one bit put or taken: withBit -/
theorem wb_put {g i : Nat} (hg : g < 256) (hi : i < 8) : bor g (bshl 1 i) = ((g ||| 2 ^ i : Nat) : Int) := by
  rw [bit1 hi, bor_nat (Nat.lt_trans hg (by decide)) (Nat.lt_trans (pow8 hi) (by decide))]
theorem wb_take {g i : Nat} (hg : g < 256) (hi : i < 8) : band g (bxor (bshl 1 i) (-1)) = ((g &&& (255 - 2 ^ i) : Nat) : Int) := by
  have : ∀ g, g < 256 → ∀ i, i < 8 → band (g : Nat) (bxor (bshl 1 (i : Nat)) (-1)) = ((g &&& (255 - 2 ^ i) : Nat) : Int) := by decide +kernel
  exact this g hg i hi
theorem put_bit {g i j : Nat} : (g ||| 2 ^ i).testBit j = (g.testBit j || decide (j = i)) := by
  rw [Nat.testBit_or, Nat.testBit_two_pow]
  congr 1
  apply decide_eq_decide.mpr
  omega
theorem put_lt {g i : Nat} (hg : g < 256) (hi : i < 8) : g ||| 2 ^ i < 256 := bb_lt_or (k := 8) hg (pow8 hi)
theorem take_bit {g i j : Nat} (hg : g < 256) (hi : i < 8) : (g &&& (255 - 2 ^ i)).testBit j = (g.testBit j && !decide (j = i)) := by
  have : ∀ g, g < 256 → ∀ i, i < 8 → ∀ j, j < 8 → (g &&& (255 - 2 ^ i)).testBit j = (g.testBit j && !decide (j = i)) := by decide +kernel
  by_cases hj : j < 8
  · exact this g hg i hi j hj
  · rw [big_bit hg (by omega), big_bit (Nat.lt_of_le_of_lt Nat.and_le_left hg) (by omega)]
    rfl
theorem bitB {g i : Nat} (hg : g < 2 ^ 31) (hi : i < 32) : band (bshr g i) 1 = b01 (g.testBit i = true) := by
  rw [bitq hg hi]
  split
  · rename_i h; exact (b01_t h).symm
  · rename_i h; exact (b01_f h).symm
theorem band_z {a : Nat} {s : Int} (ha : a < 256) (hs : 0 ≤ s ∧ s ≤ 255) : band a s = ((a &&& s.toNat : Nat) : Int) := by
  have := band_nat (a := a) (b := s.toNat) (by omega)
  rw [← this, ← cast_toNat' hs.1]
theorem bor_z {a : Nat} {s : Int} (ha : a < 256) (hs : 0 ≤ s ∧ s ≤ 255) : bor a s = ((a ||| s.toNat : Nat) : Int) := by
  have := bor_nat (a := a) (b := s.toNat) (by omega) (by omega)
  rw [← this, ← cast_toNat' hs.1]
theorem bitZ {s : Int} {i : Int} (hs : 0 ≤ s ∧ s ≤ 255) (hi : 0 ≤ i ∧ i < 32) : band (bshr s i) 1 = b01 (s.toNat.testBit i.toNat = true) := by
  have := bitB (g := s.toNat) (i := i.toNat) (by omega) (by omega)
  rw [← this, ← cast_toNat' hs.1, ← cast_toNat' hi.1]
theorem or_lt8 {a b : Nat} (ha : a < 256) (hb : b < 256) : a ||| b < 256 := bb_lt_or (k := 8) ha hb
theorem and_lt8 {a b : Nat} (ha : a < 256) : a &&& b < 256 := bb_lt_and (k := 8) ha
def bcE (x : Int) : Int :=
  band (band (band (x - band (bushr x 1) 1431655765) 858993459 + band (bushr (x - band (bushr x 1) 1431655765) 2) 858993459 + bushr (band (x - band (bushr x 1) 1431655765) 858993459 + band (bushr (x - band (bushr x 1) 1431655765) 2) 858993459) 4) 252645135 + bushr (band (band (x - band (bushr x 1) 1431655765) 858993459 + band (bushr (x - band (bushr x 1) 1431655765) 2) 858993459 + bushr (band (x - band (bushr x 1) 1431655765) 858993459 + band (bushr (x - band (bushr x 1) 1431655765) 2) 858993459) 4) 252645135) 8 + bushr (band (band (x - band (bushr x 1) 1431655765) 858993459 + band (bushr (x - band (bushr x 1) 1431655765) 2) 858993459 + bushr (band (x - band (bushr x 1) 1431655765) 858993459 + band (bushr (x - band (bushr x 1) 1431655765) 2) 858993459) 4) 252645135 + bushr (band (band (x - band (bushr x 1) 1431655765) 858993459 + band (bushr (x - band (bushr x 1) 1431655765) 2) 858993459 + bushr (band (x - band (bushr x 1) 1431655765) 858993459 + band (bushr (x - band (bushr x 1) 1431655765) 2) 858993459) 4) 252645135) 8) 16) 63
theorem bcE_all : ∀ g : Nat, g < 256 → bcE g = bcnt g := by decide +kernel
theorem bcnt_le (g : Nat) : bcnt g ≤ 8 := by
  rw [bcnt_eq]
  exact cntF_le _ _
theorem cntF_pos (f : Nat → Bool) : ∀ n, cntF f n = 0 ↔ ∀ i, i < n → f i = false
  | 0 => by simp [cntF]
  | n + 1 => by
    rw [cntF]
    constructor
    · intro h i hi
      have h1 : cntF f n = 0 := by omega
      by_cases e : i = n
      · subst e
        cases hf : f i
        · rfl
        · rw [hf] at h; simp at h
      · exact (cntF_pos f n).mp h1 i (by omega)
    · intro h
      rw [(cntF_pos f n).mpr (fun i hi => h i (by omega)), h n (by omega)]
      rfl
theorem bs_0 (f : Nat → Bool) {n : Nat} : bs f n = 0 ↔ ∀ i, i < n → f i = false := by
  constructor
  · intro h i hi
    have := bs_bit f n i
    rw [h, Nat.zero_testBit] at this
    simpa [hi] using this.symm
  · intro h
    apply ext_bits
    intro i
    rw [bs_bit, Nat.zero_testBit]
    by_cases hi : i < n
    · simp [h i hi]
    · simp [hi]
theorem band_rng (a b : Int) : rng (band a b) := by
  have h1 := Int32.toInt_lt (Int32.ofInt a &&& Int32.ofInt b)
  have h2 := Int32.le_toInt (Int32.ofInt a &&& Int32.ofInt b)
  unfold band
  constructor <;> omega
theorem band_none {s : Int} {g : Nat} (hs : 0 ≤ s ∧ s ≤ 255) (hg : g < 256) : band s g = 0 ↔ ∀ b, b < 8 → s.toNat.testBit b = true → g.testBit b = false := by
  have e : band s g = ((s.toNat &&& g : Nat) : Int) := by
    rw [← band_nat (a := s.toNat) (b := g) (by omega), ← cast_toNat' hs.1]
  rw [e]
  constructor
  · intro h b hb h1
    have h0 : s.toNat &&& g = 0 := by omega
    have := congrArg (fun z => z.testBit b) h0
    simp only [Nat.testBit_and, Nat.zero_testBit, h1, Bool.true_and] at this
    exact this
  · intro h
    have : s.toNat &&& g = 0 := by
      refine ext8 (and_lt8 (by omega)) (by decide) (fun b hb => ?_)
      rw [Nat.testBit_and, Nat.zero_testBit]
      cases h1 : s.toNat.testBit b
      · rfl
      · rw [h b hb h1]; rfl
    rw [this]
    rfl
/-- a statement as a Bool -/
noncomputable def pb (P : Prop) : Bool := @decide P (Classical.propDecidable P)
theorem pb_iff {P : Prop} : pb P = true ↔ P := by unfold pb; exact @decide_eq_true_iff P (Classical.propDecidable P)
theorem pb_f {P : Prop} : pb P = false ↔ ¬ P := by
  constructor
  · intro e h
    rw [pb_iff.mpr h] at e
    cases e
  · intro h
    cases e : pb P
    · rfl
    · exact absurd (pb_iff.mp e) h
/-- the first i, from a, of k, with P; else -1 -/
noncomputable def firstI (P : Nat → Prop) : Nat → Nat → Int
  | 0, _ => -1
  | k + 1, a => if pb (P a) = true then (a : Int) else firstI P k (a + 1)
theorem firstI_t {P : Nat → Prop} {k a : Nat} (h : P a) : firstI P (k + 1) a = a := by rw [firstI, if_pos (pb_iff.mpr h)]
theorem firstI_f {P : Nat → Prop} {k a : Nat} (h : ¬ P a) : firstI P (k + 1) a = firstI P k (a + 1) := by rw [firstI, if_neg (fun q => h (pb_iff.mp q))]
theorem firstI_congr {P R : Nat → Prop} : ∀ (k a : Nat), (∀ i, a ≤ i → i < a + k → (P i ↔ R i)) → firstI P k a = firstI R k a
  | 0, _, _ => rfl
  | k + 1, a, h => by
    have h0 := h a (Nat.le_refl _) (by omega)
    rw [firstI, firstI, firstI_congr k (a + 1) (fun i h1 h2 => h i (by omega) (by omega)), propext h0]
theorem firstI_rng {P : Nat → Prop} : ∀ (k a : Nat), firstI P k a = -1 ∨ ((a : Int) ≤ firstI P k a ∧ firstI P k a < a + k)
  | 0, _ => Or.inl rfl
  | k + 1, a => by
    rw [firstI]
    split
    · right; omega
    · rcases firstI_rng (P := P) k (a + 1) with h | h
      · left; exact h
      · right; omega
theorem firstI_none {P : Nat → Prop} : ∀ (k a : Nat), firstI P k a = -1 ↔ ∀ i, a ≤ i → i < a + k → ¬ P i
  | 0, a => by simp only [firstI, true_iff]; intro i h1 h2; omega
  | k + 1, a => by
    by_cases h : P a
    · rw [firstI_t h]
      constructor
      · intro q; omega
      · intro q; exact absurd h (q a (Nat.le_refl _) (by omega))
    · rw [firstI_f h, firstI_none k (a + 1)]
      constructor
      · intro q i h1 h2
        by_cases e : i = a
        · exact e ▸ h
        · exact q i (by omega) (by omega)
      · intro q i h1 h2
        exact q i (by omega) (by omega)
