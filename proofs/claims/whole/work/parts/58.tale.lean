/-! a PUPIL tells another row -/
def INJ (f : Nat → Int) (L : Nat) : Prop := ∀ i j, i < L → j < L → f i = f j → i = j
theorem INJ_sw {f : Nat → Int} {L a b : Nat} (h : INJ f L) (ha : a < L) (hb : b < L) : INJ (swF f a b) L := by
  intro i j hi hj e
  unfold swF at e
  by_cases h1 : i = b
  · rw [if_pos h1] at e
    by_cases h2 : j = b
    · omega
    · rw [if_neg h2] at e
      by_cases h3 : j = a
      · rw [if_pos h3] at e
        have := h _ _ ha hb e
        omega
      · rw [if_neg h3] at e
        have := h _ _ ha hj e
        omega
  · rw [if_neg h1] at e
    by_cases h4 : i = a
    · rw [if_pos h4] at e
      by_cases h2 : j = b
      · rw [if_pos h2] at e
        have := h _ _ hb ha e
        omega
      · rw [if_neg h2] at e
        by_cases h3 : j = a
        · omega
        · rw [if_neg h3] at e
          have := h _ _ hb hj e
          omega
    · rw [if_neg h4] at e
      by_cases h2 : j = b
      · rw [if_pos h2] at e
        have := h _ _ hi ha e
        omega
      · rw [if_neg h2] at e
        by_cases h3 : j = a
        · rw [if_pos h3] at e
          have := h _ _ hi hb e
          omega
        · rw [if_neg h3] at e
          exact h _ _ hi hj e
theorem INJ_rv {L : Nat} : ∀ (k : Nat) (f : Nat → Int) (a b : Nat), INJ f L → b < L → INJ (rvF f k a b) L
  | 0, f, a, b, h, _ => h
  | k + 1, f, a, b, h, hb => by
    rw [rvF]
    split
    · exact INJ_rv k _ _ _ (INJ_sw h (by omega) hb) (by omega)
    · exact h
theorem INJ_nx {L : Nat} {f : Nat → Int} (h : INJ f L) (hL : 0 < L) (ht : ¬ tnF f (L - 1) < 0) : INJ (nxA L f) L := by
  have t := tnF_rng f (L - 1)
  have o := otF_rng f (tnF f (L - 1)).toNat (L - 1) (by omega)
  unfold nxA
  exact INJ_rv _ _ _ _ (INJ_sw h (by omega) (by omega)) (by omega)
def rkO (f : Nat → Int) (L : Nat) (j : Int) : Int := if 0 ≤ j ∧ j < L then trN f (fun _ => 6) L j.toNat else 6
theorem trN_at {f tr : Nat → Int} {L : Nat} (hi : INJ f L) : ∀ n, n ≤ L → ∀ k, k < n → ∀ j : Nat, (j : Int) = f k → trN f tr n j = (k : Int) + 1
  | 0, _, k, h, _, _ => absurd h (Nat.not_lt_zero _)
  | n + 1, hn, k, hk, j, e => by
    rw [trN]
    by_cases z : k = n
    · subst z; rw [if_pos e]
    · rw [if_neg (fun y => z (hi _ _ (by omega) (by omega) (e.symm.trans y)))]
      exact trN_at hi n (by omega) k (by omega) j e
theorem rkO_at {f : Nat → Int} {L k : Nat} (pf : PF f L) (hi : INJ f L) (hk : k < L) : rkO f L (f k) = (k : Int) + 1 := by
  have := pf.1 k hk
  unfold rkO
  rw [if_pos this]
  exact trN_at hi L (Nat.le_refl _) k hk _ (by omega)
theorem rkO_rng {f : Nat → Int} {L : Nat} (hL : L ≤ 5) (pf : PF f L) (hi : INJ f L) (j : Int) : 1 ≤ rkO f L j ∧ rkO f L j ≤ 6 := by
  by_cases z : 0 ≤ j ∧ j < L
  · obtain ⟨k, hk, e⟩ := pf.2 j.toNat (by omega)
    have := rkO_at pf hi hk
    rw [show f k = j by omega] at this
    omega
  · unfold rkO; rw [if_neg z]; decide
/-- the roll with what p tells -/
def SPt (h : Hp) (p : Nat) (f : Nat → Int) (L : Nat) : SP := SPr h (fun a j => if a = p then rkO f L j else (SPh h).rk a j)
theorem SPt_rk {h : Hp} {p L : Nat} {f : Nat → Int} (hI : RI h) (hL : L ≤ 5) (pf : PF f L) (hi : INJ f L) (a : Nat) (j : Int) : 1 ≤ (if a = p then rkO f L j else (SPh h).rk a j) ∧ (if a = p then rkO f L j else (SPh h).rk a j) ≤ 6 := by
  split
  · exact rkO_rng hL pf hi j
  · exact SPh_rk hI a j
theorem eT_o {e : Hp} {p : Nat} {pl s : Int} {tr : Nat → Int} {a : Nat} (h1 : a ≠ 19) (h2 : a ≠ 20) : eT e p pl s tr a = e a := by
  funext b
  unfold eT
  rw [if_neg (fun z => h1 z.1), if_neg (fun z => h2 z.1)]
theorem eT_in {e : Hp} {p : Nat} {pl s : Int} {tr : Nat → Int} {i : Nat} (z : 6 * p ≤ i ∧ i < 6 * p + 6) : eT e p pl s tr 19 i = cstV (rk5 tr (i - 6 * p)) s ∧ eT e p pl s tr 20 i = digV (rk5 tr (i - 6 * p)) ((i - 6 * p : Nat) : Int) pl :=
  ⟨by unfold eT; rw [if_pos ⟨rfl, z⟩], by unfold eT; rw [if_neg (by omega), if_pos ⟨rfl, z⟩]⟩
theorem eT_out {e : Hp} {p : Nat} {pl s : Int} {tr : Nat → Int} {i : Nat} (z : ¬ (6 * p ≤ i ∧ i < 6 * p + 6)) : eT e p pl s tr 19 i = e 19 i ∧ eT e p pl s tr 20 i = e 20 i :=
  ⟨by unfold eT; rw [if_neg (fun y => z y.2), if_neg (by omega)], by unfold eT; rw [if_neg (by omega), if_neg (fun y => z y.2)]⟩
theorem eT_isP {e : Hp} {p : Nat} {pl s : Int} {tr : Nat → Int} : isP (eT e p pl s tr) = isP e := by
  funext j
  unfold isP
  rw [eT_o (by decide) (by decide)]
theorem EFH_eT {h : Hp} {p : Nat} {pl s : Int} {tr : Nat → Int} : EFH (eT (PRH h) p pl s tr) h := ⟨by rw [eT_o (by decide) (by decide)]; exact PRH_27, fun j => by rw [eT_isP]; exact PRH_isP j, fun g hg => by rw [eT_o (by decide) (by decide)]; exact PRH_17 hg⟩
theorem ENV_eT {e : Hp} {p : Nat} {pl s : Int} {tr : Nat → Int} (hE : ENV e) (hp : p < 8) (hs : 0 ≤ s ∧ s ≤ 300) (ht : ∀ j, j < 5 → 0 ≤ tr j ∧ tr j ≤ 6) : ENV (eT e p pl s tr) := by
  obtain ⟨e1, e2, e3, e4, e5, e6⟩ := hE
  refine ⟨by rw [eT_o (by decide) (by decide)]; exact e1, by rw [eT_o (by decide) (by decide)]; exact e2, fun i hi => ?_, by rw [eT_o (by decide) (by decide)]; exact e4, by rw [eT_o (by decide) (by decide), eT_o (by decide) (by decide)]; exact e5, by rw [eT_o (by decide) (by decide), eT_o (by decide) (by decide)]; exact e6⟩
  have h0 := e3 i hi
  have hv : ∀ c, 0 ≤ rk5 tr c ∧ rk5 tr c ≤ 6 := fun c => by
    unfold rk5
    split
    · rename_i z; exact ht c z
    · decide
  by_cases z : 6 * p ≤ i ∧ i < 6 * p + 6
  · have c := cstV_rng (hv (i - 6 * p)) hs
    have d := digV_rng (pl := pl) (hv (i - 6 * p)) (c := ((i - 6 * p : Nat) : Int)) (by omega)
    have x1 : eT e p pl s tr 19 i = cstV (rk5 tr (i - 6 * p)) s := by unfold eT; rw [if_pos ⟨rfl, z⟩]
    have x2 : eT e p pl s tr 20 i = digV (rk5 tr (i - 6 * p)) ((i - 6 * p : Nat) : Int) pl := by unfold eT; rw [if_neg (by omega), if_pos ⟨rfl, z⟩]
    rw [x1, x2]
    omega
  · have x1 : eT e p pl s tr 19 i = e 19 i := by unfold eT; rw [if_neg (fun y => z y.2), if_neg (by omega)]
    have x2 : eT e p pl s tr 20 i = e 20 i := by unfold eT; rw [if_neg (by omega), if_neg (fun y => z y.2)]
    rw [x1, x2]
    exact h0
theorem CEN_eT {h : Hp} {p : Nat} {f tr0 : Nat → Int} (hI : RI h) (r : RLr h) (o : OPM h) (hp : p < (h 1 3).toNat) (pf : PF f (h 1 4).toNat) (hi : INJ f (h 1 4).toNat) :
    CEN (eT (PRH h) p (plc h p) (h (23 + p) 3) (trN f tr0 (h 1 4).toNat)) (SPt h p f (h 1 4).toNat) mv0 (fun p => (plc h p).toNat) := by
  have hn := hI.n
  have hm := hI.q
  have base := CEN_PRH hI r o
  refine CEN_of (SPt_rk hI (by omega) pf hi) hI r o (fun j => by rw [eT_isP]; exact PRH_isP j) (eT_o (by decide) (by decide)) (by rw [eT_o (by decide) (by decide)]; exact PRH_27) (fun a ha c h1 h2 => ?_)
  have cv : colI c = if c = -1 then 5 else c := by unfold colI; split <;> split <;> omega
  have cr := colI_rng c
  by_cases z : a = p
  · subst z
    rw [if_pos rfl]
    have ix : 6 * a ≤ ((a : Int) * 6 + colI c).toNat ∧ ((a : Int) * 6 + colI c).toNat < 6 * a + 6 := by omega
    have id : ((a : Int) * 6 + colI c).toNat - 6 * a = (colI c).toNat := by omega
    have rk : rk5 (trN f tr0 (h 1 4).toNat) (colI c).toNat = rkO f (h 1 4).toNat c := by
      unfold rk5 rkO
      rw [cv]
      by_cases y : c = -1
      · rw [if_pos y, if_neg (by omega), if_neg (by omega)]
      · rw [if_neg y, if_pos (by omega), if_pos (by omega)]
        exact trN_hit _ (pf.2 c.toNat (by omega))
    rw [(eT_in ix).1, (eT_in ix).2, id, rk, show (((colI c).toNat : Nat) : Int) = colI c by omega]
    exact ⟨by unfold mv0; rw [if_neg (by decide), Int.add_zero], rfl⟩
  · rw [if_neg z]
    have b := base.2.2.2.2.2.1 a ha c h1 (by rw [PRH_27]; exact h2)
    have pk := plc_ok o ha
    have nx : ¬ (6 * p ≤ ((a : Int) * 6 + colI c).toNat ∧ ((a : Int) * 6 + colI c).toNat < 6 * p + 6) := by omega
    rw [(eT_out nx).1, (eT_out nx).2, b.1, b.2]
    refine ⟨rfl, ?_⟩
    show digV _ _ (((plc h a).toNat : Nat) : Int) = _
    rw [show (((plc h a).toNat : Nat) : Int) = plc h a by omega]
/-- the model, with the row told -/
theorem PV_tell {h g x : Hp} {p L : Nat} {f : Nat → Int} (hI : RI h) (v : PV (SPh h) g) (hL : L ≤ 5) (pf : PF f L) (hi : INJ f L) (h1 : x 44 1 = g 44 1) (h2 : ∀ k, k = 46 ∨ k = 49 ∨ k = 51 ∨ k = 53 → x k = g k) (h47 : ∀ a, a ≠ p → x 47 a = g 47 a) (h48 : ∀ a k, a ≠ p → k < 5 → x 48 (5 * a + k) = g 48 (5 * a + k)) (hp : x 47 p = L) (hr : ∀ k, k < L → x 48 (5 * p + k) = f k) : PV (SPt h p f L) x := by
  obtain ⟨v1, v2, v3, v4, v5, v6, v7, v8, v9⟩ := v
  refine ⟨h1.trans v1, v2, fun a ha => by rw [h2 46 (by omega)]; exact v3 a ha, fun a ha => ?_, SPt_rk hI hL pf hi, fun a j hj => ?_, fun a ha => by rw [h2 49 (by omega)]; exact v7 a ha, fun a b ha hb => by rw [h2 51 (by omega)]; exact v8 a b ha hb, fun i hii => by rw [h2 53 (by omega)]; exact v9 i hii⟩
  · by_cases z : a = p
    · subst z
      have e : (SPt h a f L).rk a = rkO f L := by
        funext j
        show (if a = a then rkO f L j else (SPh h).rk a j) = _
        rw [if_pos rfl]
      rw [e]
      refine ⟨by rw [hp]; omega, fun k hk => ?_, fun j hj => ?_⟩
      · rw [hp] at hk
        rw [hr k (by omega)]
        have := pf.1 k (by omega)
        exact ⟨⟨by omega, by omega⟩, rkO_at pf hi (by omega)⟩
      · rw [hp]
        by_cases y : 0 ≤ j ∧ j < L
        · obtain ⟨k, hk, e⟩ := pf.2 j.toNat (by omega)
          exact ⟨k, by omega, by rw [hr k hk, e]; omega⟩
        · unfold rkO at hj
          rw [if_neg y] at hj
          exact absurd rfl hj
    · have e : (SPt h p f L).rk a = (SPh h).rk a := by
        funext j
        show (if a = p then rkO f L j else (SPh h).rk a j) = _
        rw [if_neg z]
      rw [e]
      obtain ⟨w1, w2, w3⟩ := v4 a ha
      refine ⟨by rw [h47 a z]; exact w1, fun k hk => ?_, fun j hj => ?_⟩
      · rw [h47 a z] at hk
        rw [h48 a k z (by omega)]
        exact w2 k hk
      · obtain ⟨k, k1, k2⟩ := w3 j hj
        exact ⟨k, by rw [h47 a z]; exact k1, by rw [h48 a k z (by omega)]; exact k2⟩
  · show (if a = p then rkO f L j else (SPh h).rk a j) = 6
    split
    · unfold rkO; rw [if_neg (by omega)]
    · exact v6 a j hj
/-! rows alike below L are told alike -/
theorem trN_alike {f g tr : Nat → Int} {j : Nat} : ∀ n, (∀ i, i < n → f i = g i) → trN f tr n j = trN g tr n j
  | 0, _ => rfl
  | n + 1, h => by rw [trN, trN, h n (by omega), trN_alike n (fun i hi => h i (by omega))]
theorem payC_alike {e : Hp} {p L : Nat} {pl s honest : Int} {tr0 f g : Nat → Int} (h : ∀ i, i < L → f i = g i) : payC e p pl s honest L tr0 f = payC e p pl s honest L tr0 g := by
  have : trN f tr0 L = trN g tr0 L := funext fun j => trN_alike L h
  unfold payC
  rw [this]
def OAL (L : Nat) : Option (Nat → Int) → Option (Nat → Int) → Prop
  | none, none => True
  | some f, some g => ∀ i, i < L → f i = g i
  | _, _ => False
theorem tlC_alike {pay : (Nat → Int) → Prop} {L : Nat} (hL : 0 < L) (hp : ∀ f g, (∀ i, i < L → f i = g i) → pay f = pay g) : ∀ (k : Nat) (f g : Nat → Int), (∀ i, i < L → f i = g i) → OAL L (tlC pay L k f) (tlC pay L k g)
  | 0, _, _, _ => trivial
  | k + 1, f, g, h => by
    rw [tlC, tlC, hp f g h, tnF_congr (f := f) (g := g) (L - 1) (fun i hi => h i (by omega))]
    split
    · exact h
    · split
      · exact trivial
      · rename_i z
        have z' : ¬ tnF f (L - 1) < 0 := by rw [tnF_congr (f := f) (g := g) (L - 1) (fun i hi => h i (by omega))]; exact z
        exact tlC_alike hL hp k _ _ (nxA_congr hL h z')
/-- none pays one that has its first WISH -/
theorem tlC_none {pay : (Nat → Int) → Prop} {L : Nat} (hp : ∀ f, ¬ pay f) : ∀ (k : Nat) (f : Nat → Int), tlC pay L k f = none
  | 0, _ => rfl
  | k + 1, f => by
    rw [tlC, if_neg (fun z => hp f (pb_iff.mp z)), tlC_none hp k]
    simp
