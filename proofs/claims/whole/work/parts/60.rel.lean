/-! THE RELATION: the class's numbers and the model's, side by side -/
def FRE (h : Hp) : Prop :=
  (∀ p : Nat, h 1 3 ≤ p → p < 8 → h (23 + p) 2 = 0 ∧ h (23 + p) 3 = 0 ∧ h (23 + p) 4 = 0 ∧ h (23 + p) 5 = 0 ∧ h (23 + p) 6 = 1 ∧ ∀ j, j < 5 → h (31 + p) j = 6) ∧
  (∀ a b : Nat, a < 8 → b < 8 → (h 1 3 ≤ a ∨ h 1 3 ≤ b) → h 51 (8 * a + b) = 0 ∧ h 52 (8 * a + b) = 0 ∧ frB h a b = false ∧ apB h a b = false) ∧
  ∀ q : Nat, h 1 4 ≤ q → q < 5 → h (39 + q) 5 = 1
def G1 (h : Hp) : Prop := RI h ∧ RLr h ∧ LDI h ∧ (∀ a, a < (h 1 3).toNat → apB h a a = false) ∧ OPM h ∧ FRE h
def G2 (h : Hp) : Prop := WL h ∧ ∀ p, p < 8 → WI h p
def G3 (h : Hp) : Prop := PQ h ∧ ∀ p : Nat, h 1 3 ≤ p → p < 8 → h 4 p = -1
def G4 (h : Hp) : Prop := SCI h ∧ FDI h ∧ ∀ j, j < 5 → 0 ≤ h 7 j ∧ h 7 j ≤ 6
def YR (h : Hp) (y p : Nat) : Prop := (0 ≤ h 66 y ∧ h 66 y ≤ h 1 3) ∧ (-1 ≤ h 21 (8 * y + p) ∧ h 21 (8 * y + p) < h 1 4) ∧ (0 ≤ h 22 (8 * y + p) ∧ h 22 (8 * y + p) ≤ 6) ∧
  ((p : Int) < h 66 y → h 64 (8 * y + p) = h 21 (8 * y + p) ∧ h 65 (8 * y + p) = h 22 (8 * y + p)) ∧ (h 66 y ≤ p → h 21 (8 * y + p) = -1 ∧ h 22 (8 * y + p) = 0)
def scF (h : Hp) (p : Nat) : Nat → Int := fun y => pos1 (h 22 (8 * y + p))
def G5 (h : Hp) : Prop := (0 ≤ h 3 2 ∧ h 3 2 ≤ 60) ∧ h 44 31 = h 3 2 ∧ (∀ y p : Nat, (y : Int) < h 3 2 → p < 8 → YR h y p) ∧ (∀ i, i < 480 → 0 ≤ h 65 i ∧ h 65 i ≤ 6) ∧ ∀ p, p < 8 → h (23 + p) 3 = sumN (scF h p) (h 3 2).toNat
def G6 (h : Hp) : Prop := (0 ≤ h 0 7 ∧ h 0 7 ≤ 5) ∧ h 44 36 = h 0 7 ∧ ∀ i : Nat, (i : Int) < h 0 7 → h 67 i = h 5 i ∧ rng (h 5 i)
def RA (h : Hp) : Prop := G1 h ∧ G2 h ∧ G3 h ∧ G5 h ∧ G6 h
def REL (h : Hp) : Prop := RA h ∧ G4 h
theorem G1.sr {h x : Hp} (g : G1 h) (s : SR h x) : G1 x := by
  obtain ⟨hI, r, hl, ap, o, f1, f2, f3⟩ := g
  have hn := hI.n
  have hm := hI.q
  have e1 : x 1 = h 1 := s.1 1 (by omega)
  have e10 : x 10 = h 10 := s.1 10 (by omega)
  have ea : ∀ a, a < 8 → x (23 + a) = h (23 + a) := fun a ha => s.1 (23 + a) (by omega)
  refine ⟨s.ri hI, s.rl hI r, fun q hq h3 => ?_, fun a ha => ?_, ?_, fun p h1 h2 => ?_, fun a b ha hb hab => ?_, fun q h1 h2 => ?_⟩
  · rw [e1] at hq
    have e2 : x (39 + q) = h (39 + q) := s.1 (39 + q) (by omega)
    rw [e2] at h3 ⊢
    rw [e1]
    exact hl q hq h3
  · rw [e1] at ha
    unfold apB
    rw [ea a (by omega)]
    exact ap a ha
  · unfold OPM
    rw [e1, e10]
    exact o
  · rw [e1] at h1
    rw [ea p h2, s.1 (31 + p) (by omega)]
    exact f1 p h1 h2
  · rw [e1] at hab
    unfold frB apB
    rw [ea a ha, s.2.1 51 (by omega), s.2.1 52 (by omega)]
    exact f2 a b ha hb hab
  · rw [e1] at h1
    rw [s.1 (39 + q) (by omega)]
    exact f3 q h1 h2
theorem G2.congr {h x : Hp} (hI : RI h) (g : G2 h) (e1 : x 1 = h 1) (e2 : ∀ p, p < 8 → x (23 + p) = h (23 + p) ∧ x (31 + p) = h (31 + p)) (e47 : x 47 = h 47) (e48 : x 48 = h 48) (e49 : x 49 = h 49) : G2 x := by
  have hn := hI.n
  refine ⟨fun p hp => ?_, fun p hp => ?_⟩
  · rw [e1] at hp
    obtain ⟨w1, w2⟩ := g.1 p hp
    obtain ⟨a, b⟩ := e2 p (by omega)
    exact ⟨w1.congr (by rw [e1]) b (by rw [a]) (by rw [e47]) (fun k _ => by rw [e48]), by rw [e49, a]; exact w2⟩
  · obtain ⟨a, b⟩ := e2 p hp
    unfold WI
    rw [a, b]
    exact g.2 p hp
theorem G3.congr {h x : Hp} (g : G3 h) (e1 : x 1 = h 1) (e4 : x 4 = h 4) (e50 : x 50 = h 50) : G3 x := by
  unfold G3 PQ at g ⊢
  rw [e1, e4, e50]
  exact g
theorem G5.congr {h x : Hp} (g : G5 h) (e1 : x 1 = h 1) (e3 : x 3 = h 3) (e44 : x 44 31 = h 44 31) (ek : ∀ k, k = 21 ∨ k = 22 ∨ k = 64 ∨ k = 65 ∨ k = 66 → x k = h k) (es : ∀ p, p < 8 → x (23 + p) 3 = h (23 + p) 3) : G5 x := by
  obtain ⟨g1, g2, g3, g4, g5⟩ := g
  refine ⟨by rw [e3]; exact g1, by rw [e44, e3]; exact g2, fun y p hy hp => ?_, fun i hi => by rw [ek 65 (by omega)]; exact g4 i hi, fun p hp => ?_⟩
  · rw [e3] at hy
    unfold YR
    rw [e1, ek 21 (by omega), ek 22 (by omega), ek 64 (by omega), ek 65 (by omega), ek 66 (by omega)]
    exact g3 y p hy hp
  · rw [es p hp, e3, show scF x p = scF h p from by unfold scF; rw [ek 22 (by omega)]]
    exact g5 p hp
theorem G6.congr {h x : Hp} (g : G6 h) (e0 : x 0 7 = h 0 7) (e44 : x 44 36 = h 44 36) (e5 : x 5 = h 5) (e67 : x 67 = h 67) : G6 x := by
  unfold G6 at g ⊢
  rw [e0, e44, e5, e67]
  exact g
theorem G4.congr {h x : Hp} (g : G4 h) (e : ∀ k, k = 7 ∨ k = 16 ∨ k = 19 ∨ k = 20 → x k = h k) : G4 x := by
  unfold G4 SCI FDI at g ⊢
  rw [e 7 (by omega), e 16 (by omega), e 19 (by omega), e 20 (by omega)]
  exact g
/-- what may change and no one sees it -/
def EXC (a b : Nat) : Prop := (a = 44 ∧ (b = 0 ∨ (18 ≤ b ∧ b ≤ 28))) ∨ a = 2 ∨ a = 6 ∨ a = 7 ∨ (13 ≤ a ∧ a ≤ 20) ∨ (60 ≤ a ∧ a ≤ 63)
theorem RA.congr {h x : Hp} (g : RA h) (e : ∀ a b, ¬ EXC a b → x a b = h a b) : RA x := by
  obtain ⟨g1, g2, g3, g5, g6⟩ := g
  have hI := g1.1
  have ob : ∀ a, a ≠ 44 → a ≠ 2 → a ≠ 6 → a ≠ 7 → ¬ (13 ≤ a ∧ a ≤ 20) → ¬ (60 ≤ a ∧ a ≤ 63) → x a = h a := fun a h1 h2 h3 h4 h5 h6 => funext fun b => e a b (fun z => by unfold EXC at z; omega)
  have m : ∀ b, b ≠ 0 → ¬ (18 ≤ b ∧ b ≤ 28) → x 44 b = h 44 b := fun b h1 h2 => e 44 b (fun z => by unfold EXC at z; omega)
  have sr : SR h x := ⟨fun k hk => ob k (by omega) (by omega) (by omega) (by omega) (by omega) (by omega), fun k hk => ob k (by omega) (by omega) (by omega) (by omega) (by omega) (by omega), m 1 (by omega) (by omega), m 11 (by omega) (by omega)⟩
  refine ⟨g1.sr sr, g2.congr hI (sr.1 1 (by omega)) (fun p hp => ⟨sr.1 _ (by omega), sr.1 _ (by omega)⟩) (ob 47 (by omega) (by omega) (by omega) (by omega) (by omega) (by omega)) (ob 48 (by omega) (by omega) (by omega) (by omega) (by omega) (by omega)) (ob 49 (by omega) (by omega) (by omega) (by omega) (by omega) (by omega)),
    g3.congr (sr.1 1 (by omega)) (ob 4 (by omega) (by omega) (by omega) (by omega) (by omega) (by omega)) (ob 50 (by omega) (by omega) (by omega) (by omega) (by omega) (by omega)),
    g5.congr (sr.1 1 (by omega)) (ob 3 (by omega) (by omega) (by omega) (by omega) (by omega) (by omega)) (m 31 (by omega) (by omega)) (fun k hk => ob k (by omega) (by omega) (by omega) (by omega) (by omega) (by omega)) (fun p hp => by rw [sr.1 (23 + p) (by omega)]),
    g6.congr (e 0 7 (fun z => by unfold EXC at z; omega)) (m 36 (by omega) (by omega)) (ob 5 (by omega) (by omega) (by omega) (by omega) (by omega) (by omega)) (ob 67 (by omega) (by omega) (by omega) (by omega) (by omega) (by omega))⟩
theorem REL.t0 {h : Hp} (g : REL h) {v : Int} : REL (up h 44 0 v) :=
  ⟨g.1.congr (fun a b z => up_ne (fun y => z (Or.inl ⟨y.1, Or.inl y.2⟩))), g.2.congr (fun k hk => up_obf (by omega))⟩
theorem PLI_of {h : Hp} (hI : RI h) (g : G3 h) : PLI h := fun p hp => by
  have hm := hI.q
  have hn := hI.n
  by_cases z : p < (h 1 3).toNat
  · have := g.1 p z; omega
  · have := g.2 p (by omega) hp; omega
/-! one call of both: the same answer, and the relation behind it -/
def AGR (M7 M8 : MT) (as : List MV) (h : Hp) : Prop := ∀ d, Fr (d + 20) M7 (mA 0 :: as) h (fun r g => ∃ z, r = some (mI z) ∧ Fr (d + 20) M8 (mA 44 :: as) g (fun r2 g2 => r2 = some (mI z) ∧ REL g2))
theorem agr_fn {M7 M8 : MT} {as : List MV} {h g x : Hp} {z : Int} (c7 : ∀ d, Fn (d + 20) M7 (mA 0 :: as) h (some (mI z)) g) (c8 : ∀ d, Fn (d + 20) M8 (mA 44 :: as) g (some (mI z)) x) (rel : REL x) : AGR M7 M8 as h :=
  fun d Q hq => c7 d Q (hq _ _ ⟨z, rfl, fun Q2 hq2 => c8 d Q2 (hq2 _ _ ⟨rfl, rel⟩)⟩)
theorem agr_fn2 {M7 M8 : MT} {as : List MV} {h g x : Hp} {z w : Int} (c7 : ∀ d, Fn (d + 20) M7 (mA 0 :: as) h (some (mI z)) g) (c8 : ∀ d, Fn (d + 20) M8 (mA 44 :: as) g (some (mI w)) x) (e : w = z) (rel : REL x) : AGR M7 M8 as h := by
  subst e; exact agr_fn c7 c8 rel
theorem agr_fr {M7 M8 : MT} {as : List MV} {h g : Hp} {z : Int} {P : Option MV → Hp → Prop} (c7 : ∀ d, Fn (d + 20) M7 (mA 0 :: as) h (some (mI z)) g) (c8 : ∀ d, Fr (d + 20) M8 (mA 44 :: as) g P) (rel : ∀ r x, P r x → r = some (mI z) ∧ REL x) : AGR M7 M8 as h :=
  fun d Q hq => c7 d Q (hq _ _ ⟨z, rfl, fun Q2 hq2 => c8 d Q2 (fun r x hp => hq2 r x (rel r x hp))⟩)
theorem agr_rr {M7 M8 : MT} {as : List MV} {h : Hp} {P : Option MV → Hp → Prop} (c7 : ∀ d, Fr (d + 20) M7 (mA 0 :: as) h P) (c8 : ∀ r g, P r g → ∃ z, r = some (mI z) ∧ ∃ P2 : Option MV → Hp → Prop, (∀ d, Fr (d + 20) M8 (mA 44 :: as) g P2) ∧ ∀ r2 x, P2 r2 x → r2 = some (mI z) ∧ REL x) : AGR M7 M8 as h :=
  fun d Q hq => c7 d Q (fun r g hp => by
    obtain ⟨z, e, P2, c, k⟩ := c8 r g hp
    exact hq r g ⟨z, e, fun Q2 hq2 => c d Q2 (fun r2 x h2 => hq2 r2 x (k r2 x h2))⟩)
