/-! the class's numbers and the model's marks give one order of PLANS -/
theorem cA_abs {e : Hp} {t : Nat → Int} {n : Nat} : ∀ k, (∀ j, n ≤ j → j < n + k → isP e j = false) → cA e t (n + k) = cA e t n
  | 0, _ => rfl
  | k + 1, h => by
    rw [← Nat.add_assoc, cA, cA_abs k (fun j h1 h2 => h j h1 (by omega)), h (n + k) (by omega) (by omega)]
    simp
theorem lU_abs {e : Hp} {t : Nat → Int} {n : Nat} : ∀ k, (∀ j, n ≤ j → j < n + k → isP e j = false) → lU e t (n + k) = lU e t n
  | 0, _ => rfl
  | k + 1, h => by
    rw [← Nat.add_assoc, lU, lU_abs k (fun j h1 h2 => h j h1 (by omega)), h (n + k) (by omega) (by omega)]
    simp
theorem prs2_abs {e : Hp} {t : Nat → Int} {n : Nat} : ∀ k, (∀ j, n ≤ j → j < n + k → isP e j = false) → prs2 e t (n + k) = prs2 e t n
  | 0, _ => rfl
  | k + 1, h => by
    rw [← Nat.add_assoc, prs2, prs2_abs k (fun j h1 h2 => h j h1 (by omega)), h (n + k) (by omega) (by omega)]
    simp
/-- the class's numbers e stand for the roll P, with moves mvc, and places pl by LOTS -/
def CEN (e : Hp) (P : SP) (mvc : Nat → Int → Bool) (pl : Nat → Nat) : Prop :=
  P.n ≤ 8 ∧ (∀ p, isP e p = (decide (p < P.n) && P.pr p)) ∧ (∀ p j, p < P.n → j < P.n → (e 13 p).toNat.testBit j = P.fr p j ∧ P.fr p j = P.fr j p) ∧ (∀ p j, 1 ≤ P.rk p j ∧ P.rk p j ≤ 6) ∧
  (∀ p, p < P.n → 0 ≤ P.sc p ∧ P.sc p ≤ 300) ∧
  (∀ p, p < P.n → ∀ c : Int, -1 ≤ c → c < e 2 7 → e 19 ((p : Int) * 6 + colI c).toNat = cstV (P.rk p c) (P.sc p) + (if mvc p c = true then 1099511627776 else 0) ∧ e 20 ((p : Int) * 6 + colI c).toNat = digV (P.rk p c) (colI c) (pl p : Nat)) ∧
  (∀ i, i < P.n → P.od i < P.n ∧ pl (P.od i) = i) ∧ (∀ p, p < P.n → pl p < P.n ∧ P.od (pl p) = p) ∧ e 2 7 ≤ 5
def mvT (P : SP) (mvc : Nat → Int → Bool) (t : Nat → Int) : Int := (cntF (fun p => P.pr p && mvc p (t p)) P.n : Nat)
def TR (n : Nat) (m : Int) (t : Nat → Int) : Prop := ∀ p, p < n → -1 ≤ t p ∧ t p < m
theorem prs2_mP {e : Hp} {P : SP} {mvc : Nat → Int → Bool} {pl : Nat → Nat} (c : CEN e P mvc pl) {t : Nat → Int} (ht : TR P.n (e 2 7) t) : ∀ m, m ≤ P.n → prs2 e t m = sumN (fun b => ((cntF (fun a => pF P t a b) P.n : Nat) : Int)) m
  | 0, _ => rfl
  | m + 1, hm => by
    obtain ⟨c1, c2, c3, c4, c5, c6, c7, c8, c9⟩ := id c
    rw [prs2, sumN, prs2_mP c ht m (by omega)]
    congr 1
    have im : isP e m = P.pr m := by rw [c2]; simp [show m < P.n by omega]
    rw [im]
    have cut : cntF (fun a => pF P t a m) P.n = cntF (fun a => pF P t a m) m := by
      have := cntF_ext (fun a => pF P t a m) (P.n - m) m (fun i hi => by
        cases z : pF P t i m
        · rfl
        · exact absurd (pF_iff.mp z).1 (by omega))
      rwa [show m + (P.n - m) = P.n by omega] at this
    rw [cut]
    by_cases hp : P.pr m = true
    · rw [if_pos hp]
      congr 1
      refine cntF_congr m (fun a ha => ?_)
      have a2 := ht m (by omega)
      have ia : isP e a = P.pr a := by rw [c2]; simp [show a < P.n by omega]
      obtain ⟨f1, f2⟩ := c3 m a (by omega) (by omega)
      rw [Bool.eq_iff_iff, pF_iff, fbF, ia, f1, f2]
      simp only [Bool.and_eq_true, decide_eq_true_eq]
      exact ⟨fun ⟨b1, b2, b3, b4⟩ => ⟨ha, b3, hp, b4, by omega, b2⟩, fun ⟨b1, b2, b3, b4, b5, b6⟩ => ⟨by omega, b6, b2, b4⟩⟩
    · rw [if_neg hp]
      have : cntF (fun a => pF P t a m) m = 0 := cntF_no0 (fun i hi z => hp (pF_iff.mp z).2.2.1)
      rw [this]; rfl
theorem lU_sum {e : Hp} {P : SP} {mvc : Nat → Int → Bool} {pl : Nat → Nat} (c : CEN e P mvc pl) {t : Nat → Int} (ht : TR P.n (e 2 7) t) : ∀ m, m ≤ P.n → lU e t m = sumN (fun p => dgP P t p * ((2 ^ (6 * (7 - pl p)) : Nat) : Int)) m
  | 0, _ => rfl
  | m + 1, hm => by
    obtain ⟨c1, c2, c3, c4, c5, c6, c7, c8, c9⟩ := id c
    have im : isP e m = P.pr m := by rw [c2]; simp [show m < P.n by omega]
    have a2 := ht m (by omega)
    rw [lU, sumN, lU_sum c ht m (by omega), im, ixC, (c6 m (by omega) (t m) a2.1 a2.2).2, dgP, digV, Int.toNat_natCast]
    by_cases hp : P.pr m = true
    · rw [if_pos hp, if_pos hp]
    · rw [if_neg hp, if_neg hp, Int.zero_mul]
theorem lU_lx {e : Hp} {P : SP} {mvc : Nat → Int → Bool} {pl : Nat → Nat} (c : CEN e P mvc pl) {t : Nat → Int} (ht : TR P.n (e 2 7) t) : lU e t 8 = lxS (fun i => dgP P t (P.od i)) P.n 0 := by
  obtain ⟨c1, c2, c3, c4, c5, c6, c7, c8, c9⟩ := id c
  have a := lU_abs (e := e) (t := t) (n := P.n) (8 - P.n) (fun j h1 _ => by rw [c2]; simp [show ¬ j < P.n by omega])
  rw [show P.n + (8 - P.n) = 8 by omega] at a
  rw [a, lU_sum c ht P.n (Nat.le_refl _), lxS_sum, sumN_perm (F := fun p i => dgP P t p * ((2 ^ (6 * (7 - i)) : Nat) : Int)) (od := P.od) (pl := pl) c7 c8]
  exact sumN_congr _ (fun i _ => by rw [Nat.zero_add])
theorem mrk_rng {P : SP} (c4 : ∀ p j, 1 ≤ P.rk p j ∧ P.rk p j ≤ 6) (c1 : P.n ≤ 8) (c5 : ∀ p, p < P.n → 0 ≤ P.sc p ∧ P.sc p ≤ 300) (t : Nat → Int) : 0 ≤ mG P t ∧ mG P t ≤ 14448 := by
  have a := sumN_rng (f := gF P t) (B := 1806) P.n (fun i hi => by
    unfold gF
    have r := c4 i (t i)
    have s := c5 i hi
    split
    · have h1 : 0 ≤ P.rk i (t i) * (P.sc i + 1) := Int.mul_nonneg (by omega) (by omega)
      have h2 : P.rk i (t i) * (P.sc i + 1) ≤ 6 * 301 := Int.mul_le_mul (by omega) (by omega) (by omega) (by omega)
      omega
    · omega)
  have b := n8_mul c1 (B := 1806) (by decide)
  unfold mG
  omega
theorem cU_form {e : Hp} {P : SP} {mvc : Nat → Int → Bool} {pl : Nat → Nat} (c : CEN e P mvc pl) {t : Nat → Int} (ht : TR P.n (e 2 7) t) : cU2 e t 8 = 28 + (32 * mG P t + 1048576 * (rkC P t 2 P.n + 16 * rkC P t 3 P.n + 256 * rkC P t 4 P.n + 4096 * rkC P t 5 P.n + 65536 * rkC P t 6 P.n) + 1099511627776 * mvT P mvc t) - mP P t := by
  obtain ⟨c1, c2, c3, c4, c5, c6, c7, c8, c9⟩ := id c
  have ab : ∀ j, P.n ≤ j → j < P.n + (8 - P.n) → isP e j = false := fun j h1 _ => by rw [c2]; simp [show ¬ j < P.n by omega]
  have a := cA_abs (e := e) (t := t) (n := P.n) (8 - P.n) ab
  have b := prs2_abs (e := e) (t := t) (n := P.n) (8 - P.n) ab
  rw [show P.n + (8 - P.n) = 8 by omega] at a b
  rw [cU2, a, b, prs2_mP c ht P.n (Nat.le_refl _), cA_sum (mv := fun p => mvc p (t p)) c4 (fun p hp => by rw [c2]; simp [hp]) (fun p hp _ => by rw [ixC]; exact (c6 p hp (t p) (ht p hp).1 (ht p hp).2).1) P.n (Nat.le_refl _), mP, pairs_swap]
  rfl
theorem rkC_rng {P : SP} {t : Nat → Int} {r : Int} {n : Nat} (hn : n ≤ 8) : 0 ≤ rkC P t r n ∧ rkC P t r n ≤ 8 := by
  have := cntF_le (fun p => P.pr p && decide (P.rk p (t p) = r)) n
  unfold rkC
  omega
theorem mP_prs {e : Hp} {P : SP} {mvc : Nat → Int → Bool} {pl : Nat → Nat} (c : CEN e P mvc pl) {t : Nat → Int} (ht : TR P.n (e 2 7) t) : 0 ≤ mP P t ∧ mP P t ≤ 28 := by
  have a := prs2_mP c ht P.n (Nat.le_refl _)
  have b := prs2_rng (e := e) t P.n c.1
  have h3 : ∀ p, p ≤ 8 → p * (p - 1) ≤ 56 := by decide
  have := h3 P.n c.1
  rw [mP, pairs_swap, ← a]
  omega
/-- BETTER by the class is BETTER by the model -/
theorem better {e : Hp} {P : SP} {mvc : Nat → Int → Bool} {pl : Nat → Nat} (c : CEN e P mvc pl) {t u : Nat → Int} (ht : TR P.n (e 2 7) t) (hu : TR P.n (e 2 7) u) :
    (cU2 e t 8 < cU2 e u 8 ∨ (cU2 e t 8 = cU2 e u 8 ∧ lU e t 8 < lU e u 8)) ↔ (mvT P mvc t < mvT P mvc u ∨ (mvT P mvc t = mvT P mvc u ∧ btr P t u (mW P u) (mG P u) (mP P u))) := by
  obtain ⟨c1, c2, c3, c4, c5, c6, c7, c8, c9⟩ := id c
  have ah := ahd_lx (P := P) (t := t) (u := u) c4 (fun p hp => by have := ht p hp; omega) (fun p hp => by have := hu p hp; omega) (fun i hi => (c7 i hi).1) c1 P.n 0 (by omega)
  rw [lU_lx c ht, lU_lx c hu, ← ah, cU_form c ht, cU_form c hu, btr]
  have dg := dig_cmp (a0 := rkC P t 2 P.n) (a1 := rkC P t 3 P.n) (a2 := rkC P t 4 P.n) (a3 := rkC P t 5 P.n) (a4 := rkC P t 6 P.n) (b0 := rkC P u 2 P.n) (b1 := rkC P u 3 P.n) (b2 := rkC P u 4 P.n) (b3 := rkC P u 5 P.n) (b4 := rkC P u 6 P.n) ⟨(rkC_rng c1).1, (rkC_rng c1).2, (rkC_rng c1).1, (rkC_rng c1).2⟩ ⟨(rkC_rng c1).1, (rkC_rng c1).2, (rkC_rng c1).1, (rkC_rng c1).2⟩ ⟨(rkC_rng c1).1, (rkC_rng c1).2, (rkC_rng c1).1, (rkC_rng c1).2⟩ ⟨(rkC_rng c1).1, (rkC_rng c1).2, (rkC_rng c1).1, (rkC_rng c1).2⟩ ⟨(rkC_rng c1).1, (rkC_rng c1).2, (rkC_rng c1).1, (rkC_rng c1).2⟩
  have wt : mW P t = _ := wF_sum c4 P.n
  have wu : mW P u = _ := wF_sum c4 P.n
  rw [← wt, ← wu] at dg
  have b16 : ∀ x : Nat → Int, 0 ≤ rkC P x 2 P.n + 16 * rkC P x 3 P.n + 256 * rkC P x 4 P.n + 4096 * rkC P x 5 P.n + 65536 * rkC P x 6 P.n ∧ rkC P x 2 P.n + 16 * rkC P x 3 P.n + 256 * rkC P x 4 P.n + 4096 * rkC P x 5 P.n + 65536 * rkC P x 6 P.n ≤ 559240 := fun x => by
    have r2 := rkC_rng (P := P) (t := x) (r := 2) c1
    have r3 := rkC_rng (P := P) (t := x) (r := 3) c1
    have r4 := rkC_rng (P := P) (t := x) (r := 4) c1
    have r5 := rkC_rng (P := P) (t := x) (r := 5) c1
    have r6 := rkC_rng (P := P) (t := x) (r := 6) c1
    omega
  have t16 := b16 t
  have u16 := b16 u
  have gt := mrk_rng c4 c1 c5 t
  have gu := mrk_rng c4 c1 c5 u
  have pt := mP_prs c ht
  have pu := mP_prs c hu
  generalize rkC P t 2 P.n + 16 * rkC P t 3 P.n + 256 * rkC P t 4 P.n + 4096 * rkC P t 5 P.n + 65536 * rkC P t 6 P.n = ct at dg t16 ⊢
  generalize rkC P u 2 P.n + 16 * rkC P u 3 P.n + 256 * rkC P u 4 P.n + 4096 * rkC P u 5 P.n + 65536 * rkC P u 6 P.n = cu at dg u16 ⊢
  generalize mW P t = wt' at dg ⊢
  generalize mW P u = wu' at dg ⊢
  generalize mG P t = g1 at gt ⊢
  generalize mG P u = g2 at gu ⊢
  generalize mP P t = p1 at pt ⊢
  generalize mP P u = p2 at pu ⊢
  generalize mvT P mvc t = m1
  generalize mvT P mvc u = m2
  generalize ahd P t u P.n 0 = A
  obtain ⟨d1, d2⟩ := dg
  constructor
  · rintro (h | ⟨h, ha⟩)
    · rcases Int.lt_trichotomy m1 m2 with z | z | z
      · exact Or.inl z
      · refine Or.inr ⟨z, ?_⟩
        rcases Int.lt_trichotomy ct cu with y | y | y
        · exact Or.inl (d1.mp y)
        · refine Or.inr ⟨d2.mp y, ?_⟩
          rcases Int.lt_trichotomy g1 g2 with x | x | x
          · exact Or.inl x
          · exact Or.inr ⟨x, Or.inl (by omega)⟩
          · omega
        · omega
      · omega
    · have e1 : m1 = m2 := by omega
      have e2 : ct = cu := by omega
      have e3 : g1 = g2 := by omega
      have e4 : p1 = p2 := by omega
      exact Or.inr ⟨e1, Or.inr ⟨d2.mp e2, Or.inr ⟨e3, Or.inr ⟨e4, ha⟩⟩⟩⟩
  · rintro (h | ⟨h, hb⟩)
    · left; omega
    · rcases hb with hb | ⟨hb, hc⟩
      · have := d1.mpr hb
        left; omega
      · have e2 := d2.mpr hb
        rcases hc with hc | ⟨e3, hd | ⟨e4, ha⟩⟩
        · left; omega
        · left; omega
        · right; exact ⟨by omega, ha⟩
