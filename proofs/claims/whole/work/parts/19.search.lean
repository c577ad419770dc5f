/-! Search: the numbers behind it -/
theorem lcm_rng (a b : Int) : rng (lcm a b) := by unfold lcm; split; decide; split <;> decide
theorem lcm_le {a b : Int} : lcm a b ≤ 0 ↔ a ≤ b := by unfold lcm; split; omega; split <;> omega
theorem lcm_gt {a b : Int} : 0 < lcm a b ↔ b < a := by unfold lcm; split; omega; split <;> omega
theorem lcm_eq {a b : Int} : lcm a b = 0 ↔ a = b := by unfold lcm; split; omega; split <;> omega
theorem lcm_lt {a b : Int} : lcm a b < 0 ↔ a < b := by unfold lcm; split; omega; split <;> omega
def isP (e : Hp) (j : Nat) : Bool := (e 2 6).toNat.testBit j
def gU (e : Hp) (t : Nat → Int) (p : Nat) (q : Int) : Nat := bs (fun j => isP e j && decide (t j = q)) p
def ixC (t : Nat → Int) (j : Nat) : Nat := ((j : Int) * 6 + colI (t j)).toNat
def cA (e : Hp) (t : Nat → Int) : Nat → Int
  | 0 => 0
  | p + 1 => cA e t p + if isP e p = true then e 19 (ixC t p) else 0
def lU (e : Hp) (t : Nat → Int) : Nat → Int
  | 0 => 0
  | p + 1 => lU e t p + if isP e p = true then e 20 (ixC t p) else 0
def prs (e : Hp) (t : Nat → Int) : Nat → Int
  | 0 => 0
  | p + 1 => prs e t p + if isP e p = true then (bcnt (gU e t p (t p) &&& (e 13 p).toNat) : Int) else 0
def cU (e : Hp) (t : Nat → Int) (p : Nat) : Int := 28 + cA e t p - prs e t p
abbrev SGT : Type := Int × Int × Int × (Nat → Int)
def SG (h : Hp) : SGT := (h 2 8, h 2 9, h 2 11, h 16)
def cpy (t f : Nat → Int) : Nat → Int := fun j => if j < 8 then t j else f j
def okF (e : Hp) (t : Nat → Int) : Prop := ∀ q : Nat, q < (e 2 7).toNat → (e 17 (gU e t 8 q)).toNat.testBit q = true
noncomputable def jst (e : Hp) (lw : Int) (t : Nat → Int) (s : SGT) : SGT :=
  if pb (okF e t ∧ (cU e t 8 < s.1 ∨ cU e t 8 = s.1 ∧ lU e t 8 < s.2.1)) = true then
    (if lw = 0 then (s.1, s.2.1, s.2.2.1 + 1, s.2.2.2) else (cU e t 8, lU e t 8, s.2.2.1 + 1, cpy t s.2.2.2)) else s
def foldq {σ : Type} (f : Nat → σ → σ) : Nat → σ → σ
  | 0, s => s
  | n + 1, s => f n (foldq f n s)
def setT (t : Nat → Int) (p : Nat) (q : Int) : Nat → Int := fun j => if j = p then q else t j
noncomputable def ext (e : Hp) (lw : Int) : Nat → (Nat → Int) → SGT → SGT
  | 0, t, s => jst e lw t s
  | k + 1, t, s => if isP e (7 - k) = true then foldq (fun q s => ext e lw k (setT t (7 - k) q) s) (e 2 7).toNat s else ext e lw k t s
/-! only the PUPILS before p matter -/
theorem gU_congr {e : Hp} {t u : Nat → Int} {p : Nat} {q : Int} (h : ∀ j, j < p → isP e j = true → t j = u j) : gU e t p q = gU e u p q := bs_congr p (fun i hi => by
  cases hp : isP e i
  · rfl
  · rw [h i hi hp])
theorem cA_congr {e : Hp} {t u : Nat → Int} : ∀ p, (∀ j, j < p → isP e j = true → t j = u j) → cA e t p = cA e u p
  | 0, _ => rfl
  | p + 1, h => by
    rw [cA, cA, cA_congr p (fun j hj => h j (by omega))]
    split
    · rename_i hp
      rw [ixC, ixC, h p (by omega) hp]
    · rfl
theorem lU_congr {e : Hp} {t u : Nat → Int} : ∀ p, (∀ j, j < p → isP e j = true → t j = u j) → lU e t p = lU e u p
  | 0, _ => rfl
  | p + 1, h => by
    rw [lU, lU, lU_congr p (fun j hj => h j (by omega))]
    split
    · rename_i hp
      rw [ixC, ixC, h p (by omega) hp]
    · rfl
theorem prs_congr {e : Hp} {t u : Nat → Int} : ∀ p, (∀ j, j < p → isP e j = true → t j = u j) → prs e t p = prs e u p
  | 0, _ => rfl
  | p + 1, h => by
    rw [prs, prs, prs_congr p (fun j hj => h j (by omega))]
    split
    · rename_i hp
      rw [h p (by omega) hp, gU_congr (fun j hj => h j (by omega))]
    · rfl
theorem cU_congr {e : Hp} {t u : Nat → Int} {p : Nat} (h : ∀ j, j < p → isP e j = true → t j = u j) : cU e t p = cU e u p := by
  rw [cU, cU, cA_congr p h, prs_congr p h]
theorem jst_congr {e : Hp} {lw : Int} {t u : Nat → Int} {s : SGT} (h : ∀ j, j < 8 → t j = u j) : jst e lw t s = jst e lw u s := by
  have h2 : ∀ j, j < 8 → isP e j = true → t j = u j := fun j hj _ => h j hj
  have hc : cpy t s.2.2.2 = cpy u s.2.2.2 := by
    funext j
    simp only [cpy]
    split
    · rename_i hj; exact h j hj
    · rfl
  have ho : okF e t = okF e u := by
    unfold okF
    simp only [fun q : Nat => gU_congr (q := (q : Int)) h2]
  unfold jst
  rw [cU_congr h2, lU_congr 8 h2, hc, ho]
theorem foldq_congr {σ : Type} {f g : Nat → σ → σ} : ∀ n s, (∀ q s, q < n → f q s = g q s) → foldq f n s = foldq g n s
  | 0, _, _ => rfl
  | n + 1, s, h => by rw [foldq, foldq, foldq_congr n s (fun q s hq => h q s (by omega)), h n _ (by omega)]
theorem ext_congr {e : Hp} {lw : Int} : ∀ (k : Nat) (t u : Nat → Int) (s : SGT), k ≤ 8 → (∀ j, j < 8 → (j < 8 - k ∨ isP e j = false) → t j = u j) → ext e lw k t s = ext e lw k u s
  | 0, t, u, s, _, h => jst_congr (fun j hj => h j hj (Or.inl (by omega)))
  | k + 1, t, u, s, hk, h => by
    rw [ext, ext]
    split
    · rename_i hp
      refine foldq_congr _ _ (fun q s _ => ext_congr k _ _ s (by omega) (fun j hj h2 => ?_))
      simp only [setT]
      split
      · rfl
      · rename_i hne
        refine h j hj ?_
        rcases h2 with h2 | h2
        · left; omega
        · right; exact h2
    · rename_i hp
      refine ext_congr k t u s (by omega) (fun j hj h2 => h j hj ?_)
      rcases h2 with h2 | h2
      · by_cases e2 : j = 7 - k
        · right
          subst e2
          cases h3 : isP e (7 - k)
          · rfl
          · exact absurd h3 hp
        · left; omega
      · right; exact h2
theorem foldq_id {σ : Type} {f : Nat → σ → σ} : ∀ n s, (∀ q, q < n → f q s = s) → foldq f n s = s
  | 0, _, _ => rfl
  | n + 1, s, h => by rw [foldq, foldq_id n s (fun q hq => h q (by omega)), h n (by omega)]
/-- where no leaf changes anything, nothing changes -/
theorem ext_noop {e : Hp} {lw : Int} {s : SGT} : ∀ (k : Nat) (t : Nat → Int), k ≤ 8 → (∀ u : Nat → Int, (∀ j, j < 8 → (j < 8 - k ∨ isP e j = false) → u j = t j) → jst e lw u s = s) → ext e lw k t s = s
  | 0, t, _, h => h t (fun _ _ _ => rfl)
  | k + 1, t, hk, h => by
    rw [ext]
    split
    · rename_i hp
      refine foldq_id _ _ (fun q _ => ext_noop k _ (by omega) (fun u hu => h u (fun j hj h2 => ?_)))
      have hne : j ≠ 7 - k := fun e2 => by
        rcases h2 with h2 | h2
        · omega
        · rw [e2, hp] at h2; cases h2
      have := hu j hj (by
        rcases h2 with h2 | h2
        · left; omega
        · right; exact h2)
      rw [this, setT, if_neg hne]
    · rename_i hp
      refine ext_noop k t (by omega) (fun u hu => h u (fun j hj h2 => hu j hj ?_))
      rcases h2 with h2 | h2
      · left; omega
      · right; exact h2
/-! bounds -/
def ENV (e : Hp) : Prop := (0 ≤ e 2 6 ∧ e 2 6 ≤ 255) ∧ (0 ≤ e 2 7 ∧ e 2 7 ≤ 5) ∧ (∀ i, i < 48 → 0 ≤ e 19 i ∧ e 19 i ≤ 4398046511104 ∧ e 19 i % 32 = 0 ∧ 0 ≤ e 20 i ∧ e 20 i ≤ 4503599627370496) ∧ (∀ j, j < 8 → 0 ≤ e 13 j ∧ e 13 j ≤ 255) ∧ (∀ x, x < 256 → (0 ≤ e 17 x ∧ e 17 x ≤ 255) ∧ (0 ≤ e 18 x ∧ e 18 x ≤ 255)) ∧ ∀ x y q, x < 256 → y < 256 → sub x y → (e 17 y).toNat.testBit q = true → (e 18 x).toNat.testBit q = true
theorem ixC_lt {t : Nat → Int} {j : Nat} (hj : j < 8) : ixC t j < 48 := by
  have := colI_rng (t j)
  unfold ixC
  omega
theorem cA_rng {e : Hp} (hE : ENV e) (t : Nat → Int) : ∀ p, p ≤ 8 → 0 ≤ cA e t p ∧ cA e t p ≤ p * 4398046511104 ∧ cA e t p % 32 = 0
  | 0, _ => by simp [cA]
  | p + 1, hp => by
    have ih := cA_rng hE t p (by omega)
    have := hE.2.2.1 (ixC t p) (ixC_lt (by omega))
    rw [cA]
    split <;> omega
theorem lU_rng {e : Hp} (hE : ENV e) (t : Nat → Int) : ∀ p, p ≤ 8 → 0 ≤ lU e t p ∧ lU e t p ≤ p * 4503599627370496
  | 0, _ => by simp [lU]
  | p + 1, hp => by
    have ih := lU_rng hE t p (by omega)
    have := hE.2.2.1 (ixC t p) (ixC_lt (by omega))
    rw [lU]
    split <;> omega
theorem cA_mono {e : Hp} (hE : ENV e) (t : Nat → Int) (p : Nat) : ∀ k, p + k ≤ 8 → cA e t p ≤ cA e t (p + k)
  | 0, _ => Int.le_refl _
  | k + 1, hp => by
    have ih := cA_mono hE t p k (by omega)
    have := hE.2.2.1 (ixC t (p + k)) (ixC_lt (by omega))
    rw [← Nat.add_assoc, cA]
    split <;> omega
theorem cntF_mono {f g : Nat → Bool} : ∀ n, (∀ i, i < n → f i = true → g i = true) → cntF f n ≤ cntF g n
  | 0, _ => Nat.le_refl _
  | n + 1, h => by
    have ih := cntF_mono n (fun i hi => h i (by omega))
    have := h n (by omega)
    rw [cntF, cntF]
    cases hf : f n
    · simp only [Bool.false_eq_true, if_false]; split <;> omega
    · simp only [this hf, if_true]; omega
theorem bcnt_and_le {f : Nat → Bool} {p x : Nat} (hp : p ≤ 8) : bcnt (bs f p &&& x) ≤ p := by
  refine Nat.le_trans ?_ (cntF_le f p)
  rw [← bcnt_bs f hp, bcnt_eq, bcnt_eq]
  refine cntF_mono 8 (fun i _ h => ?_)
  rw [Nat.testBit_and, Bool.and_eq_true] at h
  exact h.1
theorem prs_rng {e : Hp} (t : Nat → Int) : ∀ p : Nat, p ≤ 8 → 0 ≤ prs e t p ∧ 2 * prs e t p ≤ (p * (p - 1) : Nat)
  | 0, _ => by simp [prs]
  | p + 1, hp => by
    have ih := prs_rng (e := e) t p (by omega)
    have hb := bcnt_and_le (f := fun j => isP e j && decide (t j = t p)) (p := p) (x := (e 13 p).toNat) (by omega)
    have e1 : (p + 1) * (p + 1 - 1) = p * (p - 1) + 2 * p := by
      rw [Nat.add_sub_cancel]
      cases p with
      | zero => rfl
      | succ m =>
        have : ∀ m, m < 8 → (m + 1 + 1) * (m + 1) = (m + 1) * m + 2 * (m + 1) := by decide
        rw [Nat.add_sub_cancel]
        exact this m (by omega)
    rw [prs, e1]
    unfold gU
    split <;> omega
theorem cU_rng {e : Hp} (hE : ENV e) (t : Nat → Int) {p : Nat} (hp : p ≤ 8) : 0 ≤ cU e t p ∧ cU e t p ≤ 40000000000000 ∧ cU e t p / 32 = cA e t p / 32 := by
  have h1 := cA_rng hE t p hp
  have h2 := prs_rng (e := e) t p hp
  have h3 : p * (p - 1) ≤ 56 := by
    have : ∀ p, p ≤ 8 → p * (p - 1) ≤ 56 := by decide
    exact this p hp
  unfold cU
  omega
def SOK (s : SGT) : Prop := (0 ≤ s.1 ∧ s.1 ≤ 4611686018427387904) ∧ (0 ≤ s.2.1 ∧ s.2.1 ≤ 4611686018427387904)
theorem jst_ok {e : Hp} {lw : Int} (hE : ENV e) (t : Nat → Int) {s : SGT} (h : SOK s) : SOK (jst e lw t s) := by
  have h1 := cU_rng hE t (p := 8) (by omega)
  have h2 := lU_rng hE t 8 (by omega)
  unfold jst
  split
  · split
    · exact h
    · exact ⟨⟨by show 0 ≤ cU e t 8; omega, by show cU e t 8 ≤ _; omega⟩, ⟨by show 0 ≤ lU e t 8; omega, by show lU e t 8 ≤ _; omega⟩⟩
  · exact h
theorem foldq_inv {σ : Type} {P : σ → Prop} {f : Nat → σ → σ} (h : ∀ q s, P s → P (f q s)) : ∀ n s, P s → P (foldq f n s)
  | 0, _, hs => hs
  | n + 1, s, hs => h n _ (foldq_inv h n s hs)
theorem ext_ok {e : Hp} {lw : Int} (hE : ENV e) : ∀ (k : Nat) (t : Nat → Int) (s : SGT), SOK s → SOK (ext e lw k t s)
  | 0, t, s, h => jst_ok hE t h
  | k + 1, t, s, h => by
    rw [ext]
    split
    · exact foldq_inv (fun q s hs => ext_ok hE k _ s hs) _ _ h
    · exact ext_ok hE k t s h
/-- a cost that is over the bar already -/
theorem prune1 {e : Hp} {lw : Int} (hE : ENV e) {k : Nat} {t : Nat → Int} {s : SGT} (hk : k ≤ 8) (h : s.1 / 32 < cU e t (8 - k) / 32) : ext e lw k t s = s := by
  refine ext_noop k t hk (fun u hu => ?_)
  have h1 := cU_rng hE u (p := 8) (by omega)
  have h2 := cU_rng hE t (p := 8 - k) (by omega)
  have h3 := cA_mono hE u (8 - k) k (by omega)
  rw [show 8 - k + k = 8 by omega] at h3
  rw [cA_congr (u := t) (8 - k) (fun j hj _ => hu j (by omega) (Or.inl hj))] at h3
  have h4 : cA e t (8 - k) / 32 ≤ cA e u 8 / 32 := Int.ediv_le_ediv (by decide) h3
  have h5 : s.1 < cU e u 8 := by omega
  unfold jst
  rw [if_neg]
  intro z
  have := (pb_iff.mp z).2
  omega
theorem gU_mono {e : Hp} {t : Nat → Int} {q : Int} {p r : Nat} (h : p ≤ r) : sub (gU e t p q) (gU e t r q) := by
  intro b hb h1
  rw [gU, bs_bit] at h1 ⊢
  simp only [Bool.and_eq_true, decide_eq_true_eq] at h1 ⊢
  exact ⟨by omega, h1.2⟩
theorem gU_lt {e : Hp} {t : Nat → Int} {q : Int} {p : Nat} (hp : p ≤ 8) : gU e t p q < 256 := bs_lt8 _ hp
/-- a group that can't grow to a fitting one -/
theorem prune2 {e : Hp} {lw : Int} (hE : ENV e) {k q : Nat} {t : Nat → Int} {s : SGT} (hk : k < 8) (hp : isP e (7 - k) = true) (hq : q < (e 2 7).toNat) (h : ¬ (e 18 (gU e t (7 - k) q ||| 2 ^ (7 - k))).toNat.testBit q = true) : ext e lw k (setT t (7 - k) q) s = s := by
  refine ext_noop k _ (by omega) (fun u hu => ?_)
  unfold jst
  rw [if_neg]
  intro z
  have h1 := (pb_iff.mp z).1 q hq
  have e1 : gU e u (7 - k + 1) q = gU e t (7 - k) q ||| 2 ^ (7 - k) := by
    have e2 : gU e u (7 - k) q = gU e t (7 - k) q := gU_congr (fun j hj _ => by
      rw [hu j (by omega) (Or.inl (by omega)), setT, if_neg (by omega)])
    show bs _ (7 - k + 1) = _
    rw [bs]
    have e3 : u (7 - k) = q := by
      rw [hu (7 - k) (by omega) (Or.inl (by omega)), setT, if_pos rfl]
    rw [if_pos (by rw [hp, e3]; simp)]
    show gU e u (7 - k) q ||| _ = _
    rw [e2]
  refine h (hE.2.2.2.2.2 _ _ q (by rw [← e1]; exact gU_lt (by omega)) (gU_lt (Nat.le_refl 8)) ?_ h1)
  rw [← e1]
  exact gU_mono (by omega)
/-- hits: at most one a leaf -/
theorem jst_hits {e : Hp} {lw : Int} (t : Nat → Int) (s : SGT) : s.2.2.1 ≤ (jst e lw t s).2.2.1 ∧ (jst e lw t s).2.2.1 ≤ s.2.2.1 + 1 := by
  unfold jst
  split
  · split
    · show s.2.2.1 ≤ s.2.2.1 + 1 ∧ s.2.2.1 + 1 ≤ s.2.2.1 + 1; omega
    · show s.2.2.1 ≤ s.2.2.1 + 1 ∧ s.2.2.1 + 1 ≤ s.2.2.1 + 1; omega
  · omega
theorem foldq_hits {f : Nat → SGT → SGT} {b : Int} (h : ∀ q s, s.2.2.1 ≤ (f q s).2.2.1 ∧ (f q s).2.2.1 ≤ s.2.2.1 + b) : ∀ (n : Nat) (s : SGT), s.2.2.1 ≤ (foldq f n s).2.2.1 ∧ (foldq f n s).2.2.1 ≤ s.2.2.1 + n * b
  | 0, s => by simp [foldq]
  | n + 1, s => by
    have ih := foldq_hits h n s
    have := h n (foldq f n s)
    rw [foldq]
    have e : ((n + 1 : Nat) : Int) * b = n * b + b := by rw [Int.natCast_add, Int.add_mul]; simp
    rw [e]
    omega
theorem ext_hits0 {e : Hp} {lw : Int} (hQ : (e 2 7).toNat ≤ 5) : ∀ (k : Nat) (t : Nat → Int) (s : SGT), s.2.2.1 ≤ (ext e lw k t s).2.2.1 ∧ (ext e lw k t s).2.2.1 ≤ s.2.2.1 + ((5 ^ k : Nat) : Int)
  | 0, t, s => by
    have := jst_hits (e := e) (lw := lw) t s
    rw [ext]
    simpa using this
  | k + 1, t, s => by
    rw [ext]
    have e5 : ((5 ^ (k + 1) : Nat) : Int) = 5 * ((5 ^ k : Nat) : Int) := by rw [Nat.pow_succ]; omega
    have hp : (0 : Int) ≤ ((5 ^ k : Nat) : Int) := Int.natCast_nonneg _
    split
    · have := foldq_hits (f := fun q s => ext e lw k (setT t (7 - k) q) s) (fun q s => ext_hits0 hQ k (setT t (7 - k) q) s) (e 2 7).toNat s
      have h2 : (((e 2 7).toNat : Nat) : Int) * ((5 ^ k : Nat) : Int) ≤ 5 * ((5 ^ k : Nat) : Int) := Int.mul_le_mul_of_nonneg_right (by omega) hp
      rw [e5]
      omega
    · have := ext_hits0 (lw := lw) hQ k t s
      rw [e5]
      omega
theorem ext_hits {e : Hp} {lw : Int} (hE : ENV e) {t : Nat → Int} {s : SGT} (h0 : s.2.2.1 = 0) : 0 ≤ (ext e lw 8 t s).2.2.1 ∧ (ext e lw 8 t s).2.2.1 < 2000000 := by
  have hQ := hE.2.1
  have := ext_hits0 (e := e) (lw := lw) (by omega) 8 t s
  rw [h0, show (5 ^ 8 : Nat) = 390625 from rfl] at this
  omega
