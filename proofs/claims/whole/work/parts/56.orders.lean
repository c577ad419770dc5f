/-! all orders of at most five: the last one comes in time -/
def fnN (x : Nat) : Nat → Int := fun i => ((x / 8 ^ i % 8 : Nat) : Int)
def chkT (L : Nat) : List Nat → Bool
  | [] => false
  | x :: r => decide (tnF (fnN x) (L - 1) < 0) || (match r with
    | [] => false
    | y :: _ => (List.range L).all (fun i => decide (nxA L (fnN x) i = fnN y i)) && chkT L r)
def ord1 : List Nat := [0]
theorem ord1_ok : chkT 1 ord1 = true := by decide +kernel
def ord2 : List Nat := [8, 1]
theorem ord2_ok : chkT 2 ord2 = true := by decide +kernel
def ord3 : List Nat := [136, 80, 129, 17, 66, 10]
theorem ord3_ok : chkT 3 ord3 = true := by decide +kernel
def ord4 : List Nat := [1672, 1224, 1616, 720, 1112, 664, 1665, 1217, 1553, 209, 1049, 153, 1602, 706, 1546, 202, 538, 90, 1091, 643, 1035, 139, 531, 83]
theorem ord4_ok : chkT 4 ord4 = true := by decide +kernel
def ord5 : List Nat := [18056, 14472, 17608, 10440, 13576, 9992, 18000, 14416, 17104, 6352, 13072, 5904, 17496, 10328, 17048, 6296, 8984, 5400, 13408, 9824, 12960, 5792, 8928, 5344, 18049, 14465, 17601, 10433, 13569, 9985, 17937, 14353, 16593, 2257, 12561, 1809, 17433, 10265, 16537, 2201, 8473, 1305, 13345, 9761, 12449, 1697, 8417, 1249, 17986, 14402, 17090, 6338, 13058, 5890, 17930, 14346, 16586, 2250, 12554, 1802, 16922, 6170, 16474, 2138, 4378, 794, 12834, 5666, 12386, 1634, 4322, 738, 17475, 10307, 17027, 6275, 8963, 5379, 17419, 10251, 16523, 2187, 8459, 1291, 16915, 6163, 16467, 2131, 4371, 787, 8739, 5155, 8291, 1123, 4259, 675, 13380, 9796, 12932, 5764, 8900, 5316, 13324, 9740, 12428, 1676, 8396, 1228, 12820, 5652, 12372, 1620, 4308, 724, 8732, 5148, 8284, 1116, 4252, 668]
theorem ord5_ok : chkT 5 ord5 = true := by decide +kernel
def ENDS (L : Nat) : Nat → (Nat → Int) → Prop
  | 0, _ => False
  | m + 1, f => tnF f (L - 1) < 0 ∨ ENDS L m (nxA L f)
theorem tnF_congr {f g : Nat → Int} : ∀ m, (∀ i, i ≤ m → f i = g i) → tnF f m = tnF g m
  | 0, _ => rfl
  | m + 1, h => by rw [tnF, tnF, h (m + 1) (Nat.le_refl _), h m (by omega), tnF_congr m (fun i hi => h i (by omega))]
theorem otF_congr {f g : Nat → Int} {t : Nat} : ∀ j, (∀ i, i ≤ j → f i = g i) → f t = g t → otF f t j = otF g t j
  | 0, _, _ => rfl
  | j + 1, h, ht => by rw [otF, otF, h (j + 1) (Nat.le_refl _), ht, otF_congr j (fun i hi => h i (by omega)) ht]
theorem swF_congr {f g : Nat → Int} {L a b : Nat} (h : ∀ i, i < L → f i = g i) (ha : a < L) (hb : b < L) : ∀ i, i < L → swF f a b i = swF g a b i := fun i hi => by
  unfold swF
  rw [h a ha, h b hb, h i hi]
theorem rvF_congr {L : Nat} : ∀ (k : Nat) (f g : Nat → Int) (a b : Nat), (∀ i, i < L → f i = g i) → b < L → ∀ i, i < L → rvF f k a b i = rvF g k a b i
  | 0, f, g, a, b, h, _ => h
  | k + 1, f, g, a, b, h, hb => fun i hi => by
    rw [rvF, rvF]
    split
    · exact rvF_congr k _ _ _ _ (swF_congr h (by omega) hb) (by omega) i hi
    · exact h i hi
theorem nxA_congr {L : Nat} {f g : Nat → Int} (hL : 0 < L) (h : ∀ i, i < L → f i = g i) (ht : ¬ tnF f (L - 1) < 0) : ∀ i, i < L → nxA L f i = nxA L g i := by
  have e := tnF_congr (f := f) (g := g) (L - 1) (fun i hi => h i (by omega))
  have t := tnF_rng f (L - 1)
  have o := otF_rng f (tnF f (L - 1)).toNat (L - 1) (by omega)
  have e2 := otF_congr (f := f) (g := g) (t := (tnF f (L - 1)).toNat) (L - 1) (fun i hi => h i (by omega)) (h _ (by omega))
  unfold nxA
  rw [← e, ← e2]
  exact rvF_congr _ _ _ _ _ (swF_congr h (by omega) (by omega)) (by omega)
theorem ENDS_congr {L : Nat} (hL : 0 < L) : ∀ (m : Nat) (f g : Nat → Int), (∀ i, i < L → f i = g i) → ENDS L m f → ENDS L m g
  | 0, _, _, _, h => h
  | m + 1, f, g, h, e => by
    have t := tnF_congr (f := f) (g := g) (L - 1) (fun i hi => h i (by omega))
    by_cases z : tnF f (L - 1) < 0
    · exact Or.inl (by rw [← t]; exact z)
    · rcases e with e | e
      · exact absurd e z
      · exact Or.inr (ENDS_congr hL m _ _ (nxA_congr hL h z) e)
theorem ENDS_more {L : Nat} : ∀ (m : Nat) (f : Nat → Int), ENDS L m f → ENDS L (m + 1) f
  | 0, _, h => h.elim
  | m + 1, f, h => h.elim Or.inl (fun z => Or.inr (ENDS_more m _ z))
theorem ENDS_le {L m k : Nat} {f : Nat → Int} (h : ENDS L m f) : ENDS L (m + k) f := by
  induction k with
  | zero => exact h
  | succ k ih => exact ENDS_more _ _ ih
theorem chk_ends {L : Nat} (hL : 0 < L) : ∀ (T : List Nat) (x : Nat), chkT L (x :: T) = true → ENDS L (T.length + 1) (fnN x)
  | [], x, h => by
    rw [chkT] at h
    simp only [Bool.or_false, decide_eq_true_eq] at h
    exact Or.inl h
  | y :: r, x, h => by
    rw [chkT] at h
    simp only [Bool.or_eq_true, Bool.and_eq_true, decide_eq_true_eq, List.all_eq_true, List.mem_range] at h
    rcases h with h | ⟨h1, h2⟩
    · exact Or.inl h
    · exact Or.inr (ENDS_congr hL _ _ _ (fun i hi => (h1 i hi).symm) (chk_ends hL r y h2))
theorem ends_id {L : Nat} (hL : 0 < L ∧ L ≤ 5) (fa : Nat → Int) : ENDS L 120 (idF fa L) := by
  have go : ∀ (T : List Nat) (x : Nat), chkT L (x :: T) = true → T.length + 1 ≤ 120 → (∀ i, i < L → fnN x i = (i : Int)) → ENDS L 120 (idF fa L) := fun T x h hl hx => by
    have e := ENDS_le (k := 120 - (T.length + 1)) (chk_ends hL.1 T x h)
    rw [show T.length + 1 + (120 - (T.length + 1)) = 120 by omega] at e
    exact ENDS_congr hL.1 _ _ _ (fun i hi => by rw [hx i hi, idF, if_pos hi]) e
  rcases (show L = 1 ∨ L = 2 ∨ L = 3 ∨ L = 4 ∨ L = 5 by omega) with rfl | rfl | rfl | rfl | rfl
  · exact go ord1.tail 0 ord1_ok (by decide) (by decide)
  · exact go ord2.tail 8 ord2_ok (by decide) (by decide)
  · exact go ord3.tail 136 ord3_ok (by decide) (by decide)
  · exact go ord4.tail 1672 ord4_ok (by decide) (by decide)
  · exact go ord5.tail 18056 ord5_ok (by decide) (by decide)
/-! a PLAN is found, whatever is told, or none is -/
def anyOk (e : Hp) : Nat → (Nat → Int) → Prop
  | 0, t => okF e t
  | k + 1, t => if isP e (7 - k) = true then ∃ q, q < (e 2 7).toNat ∧ anyOk e k (setT t (7 - k) q) else anyOk e k t
def INV0 (s : SGT) : Prop := 0 ≤ s.2.2.1 ∧ (s.2.2.1 = 0 → s.1 = ABV)
theorem ext_any {e : Hp} (hE : ENV e) : ∀ (k : Nat) (t : Nat → Int) (s : SGT), INV0 s → INV0 (ext e 1 k t s) ∧ (0 < (ext e 1 k t s).2.2.1 ↔ 0 < s.2.2.1 ∨ anyOk e k t)
  | 0, t, s, h => by
    have cr := cU_rng hE t (p := 8) (Nat.le_refl 8)
    rw [ext, anyOk]
    unfold jst
    split
    · rename_i z
      rw [if_neg (by decide)]
      refine ⟨⟨by show 0 ≤ s.2.2.1 + 1; have := h.1; omega, fun y => by have : s.2.2.1 + 1 = 0 := y; have := h.1; omega⟩, ?_⟩
      have := h.1
      exact ⟨fun _ => Or.inr (pb_iff.mp z).1, fun _ => by show 0 < s.2.2.1 + 1; omega⟩
    · rename_i z
      refine ⟨h, fun y => Or.inl y, fun y => ?_⟩
      rcases y with y | y
      · exact y
      · have h1 := h.1
        by_cases hz : s.2.2.1 = 0
        · exact absurd (pb_iff.mpr ⟨y, Or.inl (by rw [h.2 hz]; show _ < (4611686018427387904 : Int); omega)⟩) z
        · omega
  | k + 1, t, s, h => by
    rw [ext, anyOk]
    split
    · have fq : ∀ n, n ≤ (e 2 7).toNat → INV0 (foldq (fun q s => ext e 1 k (setT t (7 - k) q) s) n s) ∧ (0 < (foldq (fun q s => ext e 1 k (setT t (7 - k) q) s) n s).2.2.1 ↔ 0 < s.2.2.1 ∨ ∃ q, q < n ∧ anyOk e k (setT t (7 - k) q)) := by
        intro n
        induction n with
        | zero => intro _; exact ⟨h, fun y => Or.inl y, fun y => y.elim id (fun ⟨q, hq, _⟩ => absurd hq (Nat.not_lt_zero _))⟩
        | succ n ih =>
          intro hn
          obtain ⟨i1, i2⟩ := ih (by omega)
          obtain ⟨j1, j2⟩ := ext_any hE k (setT t (7 - k) n) _ i1
          refine ⟨j1, ?_⟩
          rw [foldq, j2, i2]
          constructor
          · rintro ((y | ⟨q, hq, y⟩) | y)
            · exact Or.inl y
            · exact Or.inr ⟨q, by omega, y⟩
            · exact Or.inr ⟨n, by omega, y⟩
          · rintro (y | ⟨q, hq, y⟩)
            · exact Or.inl (Or.inl y)
            · by_cases hqn : q = n
              · subst hqn; exact Or.inr y
              · exact Or.inl (Or.inr ⟨q, by omega, y⟩)
      exact fq _ (Nat.le_refl _)
    · exact ext_any hE k t s h
theorem anyOk_env {e g : Hp} (h1 : isP g = isP e) (h2 : g 2 7 = e 2 7) (h3 : g 17 = e 17) : ∀ (k : Nat) (t : Nat → Int), anyOk g k t = anyOk e k t
  | 0, t => by
    have : ∀ q : Nat, gU g t 8 q = gU e t 8 q := fun q => by unfold gU; rw [h1]
    rw [anyOk, anyOk, okF, okF, h2, h3]
    simp only [this]
  | k + 1, t => by
    rw [anyOk, anyOk, h1, h2]
    simp only [anyOk_env h1 h2 h3 k]
