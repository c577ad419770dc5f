/-! what the model's search keeps, beside the class's numbers -/
theorem bcnt_bsand {f : Nat → Bool} {p x : Nat} (hp : p ≤ 8) : bcnt (bs f p &&& x) = cntF (fun j => f j && x.testBit j) p := by
  have : bs f p &&& x = bs (fun j => f j && x.testBit j) p := ext_bits (fun i => by
    rw [Nat.testBit_and, bs_bit, bs_bit, Bool.and_assoc])
  rw [this, bcnt_bs _ hp]
theorem prs_prs2 {e : Hp} {t : Nat → Int} : ∀ p, p ≤ 8 → (∀ j, j < p → isP e j = true → t j ≠ -1) → prs e t p = prs2 e t p
  | 0, _, _ => rfl
  | p + 1, hp, h => by
    rw [prs, prs2, prs_prs2 p (by omega) (fun j hj => h j (by omega))]
    by_cases z : isP e p = true
    · rw [if_pos z, if_pos z, gU, bcnt_bsand (by omega)]
      congr 2
      refine cntF_congr p (fun j hj => ?_)
      have := h p (by omega) z
      rw [fbF, Bool.eq_iff_iff]
      simp only [Bool.and_eq_true, decide_eq_true_eq]
      exact ⟨fun ⟨⟨a, b⟩, c⟩ => ⟨this, b, a, c⟩, fun ⟨_, b, a, c⟩ => ⟨⟨a, b⟩, c⟩⟩
    · rw [if_neg z, if_neg z]
theorem cU_cU2 {h e : Hp} (ef : EFH e h) {t : Nat → Int} (w : PTH h t (h 1 3).toNat) : cU e t 8 = cU2 e t 8 := by
  rw [cU, cU2, prs_prs2 8 (Nat.le_refl 8) (fun j hj z => ?_)]
  rw [ef.2.1] at z
  simp only [Bool.and_eq_true, decide_eq_true_eq] at z
  have := w.1 j z.1 z.2
  omega
theorem PTH.tr {h : Hp} (hI : RI h) {t : Nat → Int} (w : PTH h t (h 1 3).toNat) : TR (h 1 3).toNat (h 1 4) t := fun p hp => by
  have hm := hI.q
  have hn := hI.n
  by_cases z : prF h p = true
  · have := w.1 p hp z; omega
  · have := w.2 p (by omega) (fun y => z y.2); omega
theorem ahd_congr {P : SP} {t u w : Nat → Int} (ho : ∀ i, i < P.n → P.od i < P.n) (hu : ∀ j, j < P.n → u j = w j) : ∀ (k i : Nat), i + k ≤ P.n → ahd P t u k i = ahd P t w k i
  | 0, _, _ => rfl
  | k + 1, i, h => by
    rw [ahd, ahd, ahd_congr ho hu k (i + 1) (by omega), hu (P.od i) (ho i (by omega))]
theorem btr_congr {P : SP} {t u w : Nat → Int} {a b c : Int} (ho : ∀ i, i < P.n → P.od i < P.n) (hu : ∀ j, j < P.n → u j = w j) : btr P t u a b c = btr P t w a b c := by
  unfold btr
  rw [ahd_congr ho hu P.n 0 (by omega)]
def mv0 : Nat → Int → Bool := fun _ _ => false
theorem mvT0 {P : SP} {t : Nat → Int} : mvT P mv0 t = 0 := by
  unfold mvT mv0
  rw [cntF_none (fun i _ => by simp)]
  rfl
theorem mvT_rng {P : SP} {mvc : Nat → Int → Bool} (h8 : P.n ≤ 8) (t : Nat → Int) : 0 ≤ mvT P mvc t ∧ mvT P mvc t ≤ 8 := by
  have := cntF_le (fun p => P.pr p && mvc p (t p)) P.n
  unfold mvT
  omega
/-- counting the RIGHT PLANS -/
def REL0 (x : Hp) (s : SGT) : Prop := x 44 23 = s.2.2.1 ∧ s.1 = ABV ∧ s.2.1 = ABV ∧ rng (x 44 27)
theorem REL0_ok {h e : Hp} {P : SP} (y0 : HYP h e P) (hE : ENV e) (a0 : h 44 28 = 0) : RELS h e P 0 REL0 := by
  obtain ⟨hI, r, hl, v, apS, ef, hpq, h28⟩ := y0
  refine ⟨fun x y s a b c => ?_, fun x s a b => ?_, fun x y s t mx a w ht f => ?_⟩
  · obtain ⟨a1, a2, a3, a4⟩ := a
    exact ⟨by rw [b 23 (by omega) (by omega)]; exact a1, a2, a3, by rw [b 27 (by omega) (by omega)]; exact a4⟩
  · obtain ⟨a1, a2, a3, a4⟩ := a
    exact ⟨by rw [a1]; constructor <;> omega, a4, fun z => by omega⟩
  · obtain ⟨a1, a2, a3, a4⟩ := id a
    have x28 : x 44 28 = h 44 28 := mx 44 28 (by omega) (by omega) (by omega)
    have ok := okF_LFO ef hI r apS w
    have lf := LFO_ms mx hI t
    have cr := cU_rng hE t (p := 8) (Nat.le_refl 8)
    obtain ⟨f1, f2, f3 | f3 | f3 | f3 | f3⟩ := f
    · rw [jst, if_neg (fun z => f3.1 (lf.mpr (ok.mp (pb_iff.mp z).1))), f3.2]
      exact a
    · rw [jst, if_pos (pb_iff.mpr ⟨ok.mpr (lf.mp f3.1), Or.inl (by rw [a2]; show _ < (4611686018427387904 : Int); omega)⟩), if_pos rfl, f3.2.2]
      exact ⟨by rw [up_same, a1], a2, a3, by rw [up_ne (by omega)]; exact a4⟩
    · omega
    · omega
    · omega
/-- counting the BETTER ones -/
def REL1 (e : Hp) (P : SP) (u : Nat → Int) (x : Hp) (s : SGT) : Prop := x 44 23 = s.2.2.1 ∧ s.1 = cU2 e u 8 ∧ s.2.1 = lU e u 8 ∧ x 44 24 = mW P u ∧ x 44 25 = mG P u ∧ x 44 26 = mP P u ∧ rng (x 44 27) ∧ ∀ j, j < P.n → x 61 j = u j
theorem REL1_ok {h e : Hp} {P : SP} {pl : Nat → Nat} {u : Nat → Int} (y0 : HYP h e P) (hE : ENV e) (c : CEN e P mv0 pl) (hu : TR P.n (e 2 7) u) (a0 : h 44 28 = 1) : RELS h e P 0 (REL1 e P u) := by
  obtain ⟨hI, r, hl, v, apS, ef, hpq, h28⟩ := y0
  have mr := marks_rng v u
  have hn := hI.n
  have en := r.n
  have v1 := v.1
  have pn : P.n = (h 1 3).toNat := by omega
  refine ⟨fun x y s a b d => ?_, fun x s a b => ?_, fun x y s t mx a w ht f => ?_⟩
  · obtain ⟨a1, a2, a3, a4, a5, a6, a7, a8⟩ := a
    exact ⟨by rw [b 23 (by omega) (by omega)]; exact a1, a2, a3, by rw [b 24 (by omega) (by omega)]; exact a4, by rw [b 25 (by omega) (by omega)]; exact a5, by rw [b 26 (by omega) (by omega)]; exact a6, by rw [b 27 (by omega) (by omega)]; exact a7, fun j hj => by rw [d]; exact a8 j hj⟩
  · obtain ⟨a1, a2, a3, a4, a5, a6, a7, a8⟩ := a
    exact ⟨by rw [a1]; constructor <;> omega, a7, fun _ => ⟨fun p hp => ⟨rfl, by rw [a8 p hp]; have := hu p hp; have := c.2.2.2.2.2.2.2.2; omega⟩, by rw [a4]; constructor <;> omega, by rw [a5]; constructor <;> omega, by rw [a6]; constructor <;> omega⟩⟩
  · obtain ⟨a1, a2, a3, a4, a5, a6, a7, a8⟩ := id a
    have x28 : x 44 28 = h 44 28 := mx 44 28 (by omega) (by omega) (by omega)
    have ok := okF_LFO ef hI r apS w
    have lf := LFO_ms mx hI t
    have tr : TR P.n (e 2 7) t := by rw [pn, ef.1]; exact w.tr hI
    have bt := better c tr hu
    rw [mvT0, mvT0] at bt
    have bt2 : (cU e t 8 < s.1 ∨ cU e t 8 = s.1 ∧ lU e t 8 < s.2.1) ↔ btr P t (x 61) (x 44 24) (x 44 25) (x 44 26) := by
      rw [cU_cU2 ef w, a2, a3, bt, a4, a5, a6, btr_congr (fun i hi => (c.2.2.2.2.2.2.1 i hi).1) a8]
      exact ⟨fun z => z.elim (fun y => absurd y (by omega)) (fun y => y.2), fun z => Or.inr ⟨rfl, z⟩⟩
    obtain ⟨f1, f2, f3 | f3 | f3 | f3 | f3⟩ := f
    · rw [jst, if_neg (fun z => f3.1 (lf.mpr (ok.mp (pb_iff.mp z).1))), f3.2]
      exact a
    · omega
    · obtain ⟨g1, g2, g3, g4, g5⟩ := f3
      have rest : ∀ k : Int, y 44 23 = k → REL1 e P u y (s.1, s.2.1, k, s.2.2.2) := fun k hk =>
        ⟨hk, a2, a3, by rw [g5 24 (by omega)]; exact a4, by rw [g5 25 (by omega)]; exact a5, by rw [g5 26 (by omega)]; exact a6, by rw [g5 27 (by omega)]; exact a7, fun j hj => by rw [g4]; exact a8 j hj⟩
      by_cases z : btr P t (x 61) (x 44 24) (x 44 25) (x 44 26)
      · rw [jst, if_pos (pb_iff.mpr ⟨ok.mpr (lf.mp g1), bt2.mpr z⟩), if_pos rfl]
        exact rest _ (by rw [g3, b01_t z, a1])
      · rw [jst, if_neg (fun q => z (bt2.mp (pb_iff.mp q).2))]
        have := rest s.2.2.1 (by rw [g3, b01_f z, a1]; omega)
        exact this
    · omega
    · omega
/-- looking for the best -/
def REL2 (h e : Hp) (P : SP) (mvc : Nat → Int → Bool) (x : Hp) (s : SGT) : Prop := rng (x 44 27) ∧
  ((x 44 23 = 0 ∧ s.2.2.1 = 0 ∧ s.1 = ABV ∧ s.2.1 = ABV) ∨ (x 44 23 = 1 ∧ 0 < s.2.2.1 ∧ ∃ u, PTH h u (h 1 3).toNat ∧ (∀ j, j < 8 → s.2.2.2 j = u j) ∧ s.1 = cU2 e u 8 ∧ s.2.1 = lU e u 8 ∧ x 44 24 = mW P u ∧ x 44 25 = mG P u ∧ x 44 26 = mP P u ∧ x 44 27 = mvT P mvc u ∧ ∀ j, j < P.n → x 61 j = u j))
theorem REL2_ok {h e : Hp} {P : SP} {pl : Nat → Nat} {mvc : Nat → Int → Bool} (y0 : HYP h e P) (hE : ENV e) (c : CEN e P mvc pl) (a0 : 2 ≤ h 44 28) (hmv : ∀ t, PTH h t (h 1 3).toNat → mvs P h t = mvT P mvc t) : RELS h e P 1 (REL2 h e P mvc) := by
  obtain ⟨hI, r, hl, v, apS, ef, hpq, h28⟩ := y0
  have hn := hI.n
  have en := r.n
  have v1 := v.1
  have pn : P.n = (h 1 3).toNat := by omega
  refine ⟨fun x y s a b d => ?_, fun x s a b => ?_, fun x y s t mx a w ht f => ?_⟩
  · obtain ⟨a1, a3⟩ := a
    refine ⟨by rw [b 27 (by omega) (by omega)]; exact a1, ?_⟩
    rw [b 23 (by omega) (by omega), b 24 (by omega) (by omega), b 25 (by omega) (by omega), b 26 (by omega) (by omega), b 27 (by omega) (by omega), d]
    exact a3
  · obtain ⟨a1, a3⟩ := a
    refine ⟨?_, a1, fun z => ?_⟩
    · rcases a3 with a3 | a3
      · rw [a3.1]; decide
      · rw [a3.1]; decide
    · rcases a3 with a3 | ⟨b1, b2, u, b3, b4, b5, b6, b7, b8, b9, b10, b11⟩
      · omega
      · have mr := marks_rng v u
        have tu := b3.tr hI
        have hm := hI.q
        exact ⟨fun p hp => ⟨rfl, by rw [b11 p hp]; have := tu p (by omega); omega⟩, by rw [b7]; constructor <;> omega, by rw [b8]; constructor <;> omega, by rw [b9]; constructor <;> omega⟩
  · obtain ⟨a1, a3⟩ := id a
    have x28 : x 44 28 = h 44 28 := mx 44 28 (by omega) (by omega) (by omega)
    have xm : mvs P x t = mvT P mvc t := by
      rw [← hmv t w]
      unfold mvs
      rw [x28, mx.ob (a := 50) (by decide) (by decide) (by decide)]
    have ok := okF_LFO ef hI r apS w
    have lf := LFO_ms mx hI t
    have tr : TR P.n (e 2 7) t := by rw [pn, ef.1]; exact w.tr hI
    have cr := cU_rng hE t (p := 8) (Nat.le_refl 8)
    have mr := marks_rng v t
    have mvr := mvT_rng (mvc := mvc) v.2.1 t
    have take : y 44 23 = 1 → y 44 24 = mW P t → y 44 25 = mG P t → y 44 26 = mP P t → y 44 27 = mvs P x t → (∀ j, j < 8 → y 61 j = x 60 j) → 0 ≤ s.2.2.1 → REL2 h e P mvc y (cU e t 8, lU e t 8, s.2.2.1 + 1, cpy t s.2.2.2) := by
      intro g1 g2 g3 g4 g5 g6 g7
      have y61 : ∀ j, j < P.n → y 61 j = t j := fun j hj => by rw [g6 j (by omega)]; exact ht j hj
      refine ⟨by rw [g5, xm]; constructor <;> omega, Or.inr ⟨g1, by show 0 < s.2.2.1 + 1; omega, t, w, fun j hj => by show cpy t s.2.2.2 j = t j; rw [cpy, if_pos hj], cU_cU2 ef w, rfl, g2, g3, g4, by rw [g5, xm], y61⟩⟩
    obtain ⟨f1, f2, f3 | f3 | f3 | f3 | f3⟩ := f
    · rw [jst, if_neg (fun z => f3.1 (lf.mpr (ok.mp (pb_iff.mp z).1))), f3.2]
      exact a
    · omega
    · omega
    · obtain ⟨l1, l2, l3, g1, g2, g3, g4, g5, g6⟩ := f3
      rcases a3 with ⟨b1, b2, b3, b4⟩ | ⟨b1, b2, u, b3, b4, b5, b6, b7, b8, b9, b10, b11⟩
      · rw [jst, if_pos (pb_iff.mpr ⟨ok.mpr (lf.mp l1), Or.inl (by rw [b3]; show _ < (4611686018427387904 : Int); omega)⟩), if_neg (by decide)]
        exact take g1 g2 g3 g4 g5 g6 (by omega)
      · have bt := better c tr (u := u) (by rw [pn, ef.1]; exact b3.tr hI)
        rw [← cU_cU2 ef w, ← b5, ← b6] at bt
        rw [b8, b9, b10, b7, btr_congr (fun i hi => (c.2.2.2.2.2.2.1 i hi).1) b11, xm] at l3
        rw [jst, if_pos (pb_iff.mpr ⟨ok.mpr (lf.mp l1), bt.mpr (l3.resolve_left (by omega))⟩), if_neg (by decide)]
        exact take g1 g2 g3 g4 g5 g6 (by omega)
    · obtain ⟨l1, l2, l3, g1, g2⟩ := f3
      rcases id a3 with ⟨b1, b2, b3, b4⟩ | ⟨b1, b2, u, b3, b4, b5, b6, b7, b8, b9, b10, b11⟩
      · exact absurd (Or.inl b1) l3
      · have bt := better c tr (u := u) (by rw [pn, ef.1]; exact b3.tr hI)
        rw [← cU_cU2 ef w, ← b5, ← b6] at bt
        rw [b8, b9, b10, b7, btr_congr (fun i hi => (c.2.2.2.2.2.2.1 i hi).1) b11, xm] at l3
        rw [jst, if_neg (fun z => l3 (Or.inr (bt.mp (pb_iff.mp z).2)))]
        refine ⟨by rw [g2 27 (by omega)]; exact a1, ?_⟩
        rw [g2 23 (by omega), g2 24 (by omega), g2 25 (by omega), g2 26 (by omega), g2 27 (by omega), g1]
        exact a3
