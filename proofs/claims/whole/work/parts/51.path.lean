/-! the model's path through its search, beside the class's leaves -/
def EFH (e h : Hp) : Prop := e 2 7 = h 1 4 ∧ (∀ p, isP e p = (decide (p < (h 1 3).toNat) && prF h p)) ∧ ∀ g, g < 256 → e 17 g = (fitN h g : Nat)
def PTH (h : Hp) (t : Nat → Int) (m : Nat) : Prop := (∀ j, j < m → prF h j = true → 0 ≤ t j ∧ t j < h 1 4 ∧ mayP h t j (t j).toNat) ∧ ∀ j, j < 8 → ¬ (j < (h 1 3).toNat ∧ prF h j = true) → t j = -1
theorem mayP_congr {h : Hp} {t u : Nat → Int} {p q : Nat} (e : ∀ i, i < p → t i = u i) : mayP h t p q ↔ mayP h u p q := by
  unfold mayP
  rw [cntF_congr (f := fun i => decide (t i = (q : Int))) (g := fun i => decide (u i = (q : Int))) p (fun i hi => by simp only [e i hi])]
  constructor
  · rintro ⟨a, b, c⟩
    exact ⟨a, b, fun i hi z => c i hi (by rw [e i hi]; exact z)⟩
  · rintro ⟨a, b, c⟩
    exact ⟨a, b, fun i hi z => c i hi (by rw [← e i hi]; exact z)⟩
theorem PTH.ext {h : Hp} {t : Nat → Int} {p q : Nat} (w : PTH h t p) (hp : p < (h 1 3).toNat ∧ prF h p = true) (hq : (q : Int) < h 1 4) (m : mayP h t p q) : PTH h (setT t p q) (p + 1) := by
  constructor
  · intro j hj hpr
    by_cases e : j = p
    · subst e
      have e1 : setT t j q j = q := by simp [setT]
      rw [e1]
      refine ⟨by omega, hq, ?_⟩
      rw [Int.toNat_natCast]
      exact (mayP_congr (fun i hi => by simp only [setT, if_neg (show ¬ i = j by omega)])).mpr m
    · have e1 : setT t p q j = t j := by simp only [setT, if_neg e]
      rw [e1]
      obtain ⟨a, b, c⟩ := w.1 j (by omega) hpr
      exact ⟨a, b, (mayP_congr (fun i hi => by simp only [setT, if_neg (show ¬ i = p by omega)])).mpr c⟩
  · intro j hj hn
    have e : j ≠ p := fun z => hn (z ▸ hp)
    rw [setT, if_neg e]
    exact w.2 j hj hn
theorem PTH.skip {h : Hp} {t : Nat → Int} {p : Nat} (w : PTH h t p) (hp : ¬ prF h p = true) : PTH h t (p + 1) :=
  ⟨fun j hj hpr => w.1 j (by have : j ≠ p := fun z => hp (z ▸ hpr); omega) hpr, w.2⟩
theorem gU_gT {e h : Hp} (ef : EFH e h) (hI : RI h) {t : Nat → Int} (w : ∀ j, j < 8 → ¬ (j < (h 1 3).toNat ∧ prF h j = true) → t j = -1) {q : Nat} : gU e t 8 q = gT t (h 1 3).toNat q := by
  have hn := hI.n
  refine ext_bits (fun i => ?_)
  rw [gU, gT, bs_bit, bs_bit, ef.2.1]
  by_cases h1 : i < (h 1 3).toNat
  · have h8 : i < 8 := by omega
    by_cases h2 : prF h i = true
    · simp [h1, h8, h2]
    · have := w i h8 (fun z => h2 z.2)
      rw [this]
      simp [h1, h8, h2]
  · simp [h1]
theorem fit_bit {h : Hp} {g q : Nat} (hq : q < (h 1 4).toNat) : (fitN h g).testBit q = true ↔ (sub g (bs (prF h) (h 1 3).toNat) ∧ alw h q g) := by
  unfold fitN
  by_cases s : sub g (bs (prF h) (h 1 3).toNat)
  · rw [if_pos (pb_iff.mpr s), bs_bit]
    simp only [hq, decide_true, Bool.true_and, pb_iff]
    exact ⟨fun z => ⟨s, z⟩, fun z => z.2⟩
  · rw [if_neg (fun z => s (pb_iff.mp z))]
    simp [s]
theorem gT_bit {t : Nat → Int} {n i : Nat} {q : Int} : (gT t n q).testBit i = true ↔ i < n ∧ t i = q := by
  rw [gT, bs_bit]; simp
/-- a leaf fits for the class, where the model's last look is content -/
theorem okF_LFO {e h : Hp} (ef : EFH e h) (hI : RI h) (r : RLr h) (apS : ∀ a, a < (h 1 3).toNat → apB h a a = false) {t : Nat → Int} (w : PTH h t (h 1 3).toNat) : okF e t ↔ LFO h t := by
  have hn := hI.n
  have hm := hI.q
  have key : ∀ q, q < (h 1 4).toNat → ((e 17 (gU e t 8 q)).toNat.testBit q = true ↔ (sub (gT t (h 1 3).toNat q) (bs (prF h) (h 1 3).toNat) ∧ alw h q (gT t (h 1 3).toNat q))) := fun q hq => by
    rw [ef.2.2 _ (gU_lt (Nat.le_refl 8)), gU_gT ef hI w.2, Int.toNat_natCast, fit_bit hq]
  have pres : ∀ i (q : Nat), i < (h 1 3).toNat → t i = q → prF h i = true := fun i q hi hq => Classical.byContradiction (fun z => by
    have := w.2 i (by omega) (fun y => z y.2); omega)
  constructor
  · intro ok q hq
    have a := ((key q hq).mp (ok q (by rw [ef.1]; exact hq))).2
    by_cases g0 : gT t (h 1 3).toNat q = 0
    · exact Or.inl g0
    · right
      refine ⟨?_, ?_, ?_⟩
      · exact Classical.byContradiction (fun z => a.1 4 (by omega) (by omega) ⟨g0, Or.inr (Or.inl ⟨rfl, z⟩)⟩)
      · exact fun z => a.1 5 (by omega) (by omega) ⟨g0, Or.inr (Or.inr (Or.inl ⟨rfl, z⟩))⟩
      · exact fun z => a.1 6 (by omega) (by omega) ⟨g0, Or.inr (Or.inr (Or.inr ⟨rfl, z⟩))⟩
  · intro ok q hq
    rw [ef.1] at hq
    refine (key q hq).mpr ⟨fun b hb hbit => ?_, fun f f1 f2 gh => ?_, fun p hp hbit b hb hap => ?_⟩
    · obtain ⟨b1, b2⟩ := gT_bit.mp hbit
      rw [bs_bit]
      simp [b1, pres b q b1 b2]
    · obtain ⟨g0, gc⟩ := gh
      have o := (ok q hq).resolve_left g0
      rcases gc with ⟨_, c⟩ | ⟨_, c⟩ | ⟨_, c⟩ | ⟨_, c⟩
      · have ne : ¬ ∀ i, i < (h 1 3).toNat → decide (t i = (q : Int)) = false := fun z => g0 ((bs_0 _).mpr z)
        have : ∃ i, i < (h 1 3).toNat ∧ t i = (q : Int) := Classical.byContradiction (fun z => ne (fun i hi => by
          simp only [decide_eq_false_iff_not]; exact fun y => z ⟨i, hi, y⟩))
        obtain ⟨i, i1, i2⟩ := this
        have m := (w.1 i i1 (pres i q i1 i2)).2.2.1
        rw [i2, Int.toNat_natCast] at m
        omega
      · exact c o.1
      · exact o.2.1 c
      · exact o.2.2 c
    · obtain ⟨p1, p2⟩ := gT_bit.mp hbit
      cases z : (gT t (h 1 3).toNat q).testBit b
      · rfl
      · obtain ⟨b1, b2⟩ := gT_bit.mp z
        exfalso
        rcases Nat.lt_trichotomy b p with y | y | y
        · have m := (w.1 p p1 (pres p q p1 p2)).2.2.2.2 b y (by rw [p2, Int.toNat_natCast]; exact b2)
          have sy := (r.fr p1 b1).2.2.2.2.2
          rw [hap, m] at sy
          cases sy
        · subst y
          rw [apS b b1] at hap
          cases hap
        · have m := (w.1 b b1 (pres b q b1 b2)).2.2.2.2 p y (by rw [b2, Int.toNat_natCast]; exact p2)
          rw [hap] at m
          cases m
theorem cntF_more {f : Nat → Bool} {n : Nat} : ∀ k, cntF f n ≤ cntF f (n + k)
  | 0 => Nat.le_refl _
  | k + 1 => by
    have := cntF_more (f := f) (n := n) k
    rw [← Nat.add_assoc, cntF]
    omega
/-- where the model may not go, no leaf of the class fits -/
theorem may_no {e h : Hp} (ef : EFH e h) (hI : RI h) {lw : Int} {t : Nat → Int} {p q : Nat} {s : SGT} (hp : p < (h 1 3).toNat ∧ prF h p = true) (hq : q < (h 1 4).toNat) (w : PTH h t p) (no : ¬ mayP h t p q) : ext e lw (7 - p) (setT t p q) s = s := by
  have hn := hI.n
  have hm := hI.q
  refine ext_noop (7 - p) _ (by omega) (fun u hu => ?_)
  unfold jst
  rw [if_neg]
  intro z
  have ok := (pb_iff.mp z).1 q (by rw [ef.1]; exact hq)
  have ab : ∀ j, j < 8 → ¬ (j < (h 1 3).toNat ∧ prF h j = true) → u j = -1 := fun j hj hn2 => by
    rw [hu j hj (Or.inr (by rw [ef.2.1]; by_cases a : j < (h 1 3).toNat <;> by_cases b : prF h j = true <;> simp_all)), setT, if_neg (fun y : j = p => hn2 (y ▸ hp))]
    exact w.2 j hj hn2
  rw [ef.2.2 _ (gU_lt (Nat.le_refl 8)), gU_gT ef hI ab, Int.toNat_natCast, fit_bit hq] at ok
  obtain ⟨_, a1, a2⟩ := ok
  have bl : ∀ i, i < p → t i = q → (gT u (h 1 3).toNat q).testBit i = true := fun i hi ht => gT_bit.mpr ⟨by omega, by
    rw [hu i (by omega) (Or.inl (by omega)), setT, if_neg (by omega)]; exact ht⟩
  have bp : (gT u (h 1 3).toNat q).testBit p = true := gT_bit.mpr ⟨hp.1, by
    rw [hu p (by omega) (Or.inl (by omega)), setT, if_pos rfl]⟩
  have g0 : gT u (h 1 3).toNat q ≠ 0 := fun y => by rw [y] at bp; simp at bp
  refine no ⟨?_, ?_, ?_⟩
  · have h5 := (hI.pr (p := q) (by omega)).2.2.2.2.2.1
    rcases h5 with h5 | h5
    · exact absurd ⟨g0, Or.inl ⟨rfl, h5⟩⟩ (a1 3 (by omega) (by omega))
    · exact h5
  · have tk : tks h q (bcnt (gT u (h 1 3).toNat q)) := Classical.byContradiction (fun y => a1 4 (by omega) (by omega) ⟨g0, Or.inr (Or.inl ⟨rfl, y⟩)⟩)
    have c1 : cntF (fun i => decide (t i = (q : Int))) p ≤ cntF (fun i => (gT u (h 1 3).toNat q).testBit i) p := cntF_mono p (fun i hi y => bl i hi (by simpa using y))
    have c2 : cntF (fun i => (gT u (h 1 3).toNat q).testBit i) (p + 1) = cntF (fun i => (gT u (h 1 3).toNat q).testBit i) p + 1 := cntF_t bp
    have c3 := cntF_more (f := fun i => (gT u (h 1 3).toNat q).testBit i) (n := p + 1) (7 - p)
    rw [show p + 1 + (7 - p) = 8 by omega, ← bcnt_eq] at c3
    have h2 := (hI.pr (p := q) (by omega)).2.2.1
    rcases tk with tk | tk
    · obtain ⟨k1, k2, k3, k4⟩ := tk
      rw [if_pos k1]
      omega
    · split
      · omega
      · omega
  · intro i hi ht
    cases y : apB h i p
    · rfl
    · have := a2 i (by omega) (bl i hi ht) p (by omega) y
      rw [bp] at this
      cases this
/-- behind the last PUPIL nothing is left to choose -/
theorem ext_abs {e : Hp} {lw : Int} {s : SGT} {t : Nat → Int} : ∀ k, k ≤ 8 → (∀ j, 8 - k ≤ j → j < 8 → isP e j = false) → ext e lw k t s = jst e lw t s
  | 0, _, _ => rfl
  | k + 1, hk, h => by
    rw [ext, if_neg (by rw [h (7 - k) (by omega) (by omega)]; exact fun z => by cases z)]
    exact ext_abs k (by omega) (fun j h1 h2 => h j (by omega) h2)
/-- at most one hit a leaf; behind the last PUPIL nothing branches -/
theorem ext_hits_abs {e : Hp} {lw : Int} (hQ : (e 2 7).toNat ≤ 5) : ∀ (k m : Nat), k + m ≤ 8 → (∀ j, 8 - m ≤ j → j < 8 → isP e j = false) → ∀ (t : Nat → Int) (s : SGT), s.2.2.1 ≤ (ext e lw (k + m) t s).2.2.1 ∧ (ext e lw (k + m) t s).2.2.1 ≤ s.2.2.1 + ((5 ^ k : Nat) : Int)
  | 0, m, hm, h, t, s => by
    rw [Nat.zero_add, ext_abs m (by omega) h]
    have := jst_hits (e := e) (lw := lw) t s
    simpa using this
  | k + 1, m, hm, h, t, s => by
    have e5 : ((5 ^ (k + 1) : Nat) : Int) = 5 * ((5 ^ k : Nat) : Int) := by rw [Nat.pow_succ]; omega
    have hp : (0 : Int) ≤ ((5 ^ k : Nat) : Int) := Int.natCast_nonneg _
    rw [show k + 1 + m = (k + m) + 1 by omega, ext]
    split
    · have := foldq_hits (f := fun q s => ext e lw (k + m) (setT t (7 - (k + m)) q) s) (fun q s => ext_hits_abs hQ k m (by omega) h (setT t (7 - (k + m)) q) s) (e 2 7).toNat s
      have h2 : (((e 2 7).toNat : Nat) : Int) * ((5 ^ k : Nat) : Int) ≤ 5 * ((5 ^ k : Nat) : Int) := Int.mul_le_mul_of_nonneg_right (by omega) hp
      rw [e5]
      omega
    · have := ext_hits_abs (lw := lw) hQ k m (by omega) h t s
      rw [e5]
      omega
