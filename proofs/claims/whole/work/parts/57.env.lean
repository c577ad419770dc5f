/-! the roll as the search's parameters -/
def SPr (h : Hp) (rk : Nat → Int → Int) : SP := ((h 1 3).toNat, prF h, rk, fun p => h (23 + p) 3, frB h, fun i => (h 10 i).toNat)
def SPh (h : Hp) : SP := SPr h (fun p j => if p < 8 then rkI h p j else 6)
def OPM (h : Hp) : Prop := (∀ i, i < (h 1 3).toNat → 0 ≤ h 10 i ∧ h 10 i < h 1 3) ∧ (∀ p : Nat, p < (h 1 3).toNat → ∃ i, i < (h 1 3).toNat ∧ h 10 i = p) ∧ ∀ i j, i < (h 1 3).toNat → j < (h 1 3).toNat → h 10 i = h 10 j → i = j
theorem findP_hit {f : Nat → Int} {p : Int} : ∀ (k a : Nat), (∃ i, a ≤ i ∧ i < a + k ∧ f i = p) → (a : Int) ≤ findP f p k a ∧ findP f p k a < a + k ∧ f (findP f p k a).toNat = p
  | 0, a, ⟨i, h1, h2, _⟩ => by omega
  | k + 1, a, ⟨i, h1, h2, h3⟩ => by
    rw [findP]
    split
    · rename_i z
      exact ⟨Int.le_refl _, by omega, by rw [Int.toNat_natCast]; exact z⟩
    · rename_i z
      have : i ≠ a := fun y => z (y ▸ h3)
      have ih := findP_hit k (a + 1) ⟨i, by omega, by omega, h3⟩
      exact ⟨by omega, by omega, ih.2.2⟩
theorem plc_ok {h : Hp} (o : OPM h) {p : Nat} (hp : p < (h 1 3).toNat) : 0 ≤ plc h p ∧ plc h p < h 1 3 ∧ h 10 (plc h p).toNat = p := by
  obtain ⟨i, h1, h2⟩ := o.2.1 p hp
  have := findP_hit (f := h 10) (p := (p : Int)) (h 1 3).toNat 0 ⟨i, by omega, by omega, h2⟩
  unfold plc
  exact ⟨by omega, by omega, this.2.2⟩
theorem plc_8 {h : Hp} (hI : RI h) (o : OPM h) : ∀ p, p < (h 1 3).toNat → 0 ≤ plc h p ∧ plc h p ≤ 7 := fun p hp => by
  have := plc_ok o hp
  have := hI.n
  omega
theorem SPh_rk {h : Hp} (hI : RI h) (p : Nat) (j : Int) : 1 ≤ (SPh h).rk p j ∧ (SPh h).rk p j ≤ 6 := by
  show 1 ≤ (if p < 8 then rkI h p j else 6) ∧ (if p < 8 then rkI h p j else 6) ≤ 6
  split
  · rename_i z; exact rkI_rng hI z j
  · decide
theorem PV_SPh {h : Hp} (hI : RI h) (r : RLr h) (w : WL h) : PV (SPh h) h := by
  have hn := hI.n
  have en := r.n
  refine ⟨by show h 44 1 = (((h 1 3).toNat : Nat) : Int); omega, by show (h 1 3).toNat ≤ 8; omega, fun p hp => ?_, fun p hp => ?_, SPh_rk hI, fun p j hj => ?_, fun p hp => ?_, fun a b ha hb => ?_, fun i hi => ?_⟩
  · have hp' : p < (h 1 3).toNat := hp
    rw [(r.pu hp').2]
    have := (hI.pu (p := p) (by omega)).2.2.2.2.2.1
    show _ = if prF h p = true then 1 else 0
    unfold prF
    rcases this with z | z <;> rw [z] <;> simp
  · have hp' : p < (h 1 3).toNat := hp
    have := WL.rk hI w hp'
    have e : (SPh h).rk p = rkI h p := by
      funext j
      show (if p < 8 then rkI h p j else 6) = _
      rw [if_pos (by omega)]
    rw [e]
    exact this
  · show (if p < 8 then rkI h p j else 6) = 6
    split
    · unfold rkI; rw [if_neg (by omega)]
    · rfl
  · have hp' : p < (h 1 3).toNat := hp
    have := (hI.pu (p := p) (by omega)).2.2.1
    exact ⟨(w p hp').2, this⟩
  · have f := r.fr (a := a) (b := b) ha hb
    show _ = if frB h a b = true then 1 else 0
    by_cases z : frB h a b = true
    · rw [if_pos z, f.1.mp z]
    · rw [if_neg z]
      rcases f.2.2.1 with y | y
      · exact y
      · exact absurd (f.1.mpr y) z
  · have l := r.lot (i := i) hi
    show _ = (((h 10 i).toNat : Nat) : Int) ∧ (h 10 i).toNat < (h 1 3).toNat
    omega
theorem EFH_PRH {h : Hp} : EFH (PRH h) h := ⟨PRH_27, PRH_isP, fun g hg => PRH_17 hg⟩
theorem colI_ix {h : Hp} {p : Nat} {c : Int} (hc : -1 ≤ c ∧ c < 5) : ((p : Int) * 6 + colI c).toNat / 6 = p ∧ ((p : Int) * 6 + colI c).toNat % 6 = (colI c).toNat ∧ rkc h (31 + p) (colI c).toNat = rkI h p c := by
  have a : colI c = if c = -1 then 5 else c := by unfold colI; split <;> split <;> omega
  rw [a]
  unfold rkc rkI
  by_cases z : c = -1
  · rw [if_pos z, if_neg (by omega), if_neg (by omega)]
    exact ⟨by omega, by omega, rfl⟩
  · rw [if_neg z, if_pos (by omega), if_pos (by omega)]
    exact ⟨by omega, by omega, rfl⟩
theorem CEN_of {h e : Hp} {rk : Nat → Int → Int} {mvc : Nat → Int → Bool} (hrk : ∀ p j, 1 ≤ rk p j ∧ rk p j ≤ 6) (hI : RI h) (r : RLr h) (o : OPM h) (ei : ∀ p, isP e p = (decide (p < (h 1 3).toNat) && prF h p)) (e13 : e 13 = PRH h 13) (e27 : e 2 7 = h 1 4)
    (hc : ∀ p, p < (h 1 3).toNat → ∀ c : Int, -1 ≤ c → c < h 1 4 → e 19 ((p : Int) * 6 + colI c).toNat = cstV (rk p c) (h (23 + p) 3) + (if mvc p c = true then 1099511627776 else 0) ∧ e 20 ((p : Int) * 6 + colI c).toNat = digV (rk p c) (colI c) (plc h p)) : CEN e (SPr h rk) mvc (fun p => (plc h p).toNat) := by
  have hn := hI.n
  have hm := hI.q
  refine ⟨by show (h 1 3).toNat ≤ 8; omega, ei, fun p j hp hj => ?_, hrk, fun p hp => (hI.pu (p := p) (by have : p < (h 1 3).toNat := hp; omega)).2.2.1, fun p hp c h1 h2 => ?_, fun i hi => ?_, fun p hp => ?_, by omega⟩
  · have hp' : p < (h 1 3).toNat := hp
    rw [e13, PRH_13 (by omega), if_pos hp']
    exact ⟨rfl, (r.fr (a := p) (b := j) hp hj).2.2.2.2.1⟩
  · have hp' : p < (h 1 3).toNat := hp
    have pk := plc_ok o hp'
    have := hc p hp c h1 (by omega)
    refine ⟨this.1, ?_⟩
    rw [this.2]
    show _ = digV (rk p c) _ (((plc h p).toNat : Nat) : Int)
    rw [show (((plc h p).toNat : Nat) : Int) = plc h p by omega]
  · have hi' : i < (h 1 3).toNat := hi
    have l := o.1 i hi'
    show (h 10 i).toNat < (h 1 3).toNat ∧ (plc h (h 10 i).toNat).toNat = i
    refine ⟨by omega, ?_⟩
    have pk := plc_ok o (p := (h 10 i).toNat) (by omega)
    exact o.2.2 _ _ (by omega) hi' (by rw [pk.2.2]; omega)
  · have hp' : p < (h 1 3).toNat := hp
    have pk := plc_ok o hp'
    show (plc h p).toNat < (h 1 3).toNat ∧ (h 10 (plc h p).toNat).toNat = p
    rw [pk.2.2]
    omega
theorem CEN_PRH {h : Hp} (hI : RI h) (r : RLr h) (o : OPM h) : CEN (PRH h) (SPh h) mv0 (fun p => (plc h p).toNat) := by
  have hn := hI.n
  have hm := hI.q
  refine CEN_of (SPh_rk hI) hI r o PRH_isP rfl PRH_27 (fun p hp c h1 h2 => ?_)
  obtain ⟨i1, i2, i3⟩ := colI_ix (h := h) (p := p) (c := c) (by omega)
  have ci := colI_rng c
  have lt : ((p : Int) * 6 + colI c).toNat < 6 * (h 1 3).toNat := by omega
  rw [PRH_19, PRH_20, if_pos lt, if_pos lt, csC, dgC, i1, i2, i3]
  show _ = cstV (if p < 8 then rkI h p c else 6) _ + _ ∧ _ = digV (if p < 8 then rkI h p c else 6) _ _
  rw [if_pos (show p < 8 by omega), show (((colI c).toNat : Nat) : Int) = colI c by omega]
  exact ⟨by unfold mv0; rw [if_neg (by decide), Int.add_zero], rfl⟩
theorem chH_o {h : Hp} {i a : Nat} (h1 : a ≠ 19) : chH h i a = PRH h a := chH_ne h1
theorem isP_chH {h : Hp} {i : Nat} (p : Nat) : isP (chH h i) p = (decide (p < (h 1 3).toNat) && prF h p) := by
  have : isP (chH h i) p = isP (PRH h) p := by unfold isP; rw [chH_ne (by decide)]
  rw [this, PRH_isP]
theorem EFH_chH {h : Hp} {i : Nat} : EFH (chH h i) h := ⟨by rw [chH_ne (by decide)]; exact PRH_27, isP_chH, fun g hg => by rw [chH_ne (by decide)]; exact PRH_17 hg⟩
theorem CEN_chH {h : Hp} {pl : Nat → Int} (hI : RI h) (r : RLr h) (o : OPM h) (hL : PLI h) (hpl : ∀ p, p < (h 1 3).toNat → pl p = h 4 p) : CEN (chH h (h 1 3).toNat) (SPh h) (mvC pl) (fun p => (plc h p).toNat) := by
  have hn := hI.n
  have hm := hI.q
  refine CEN_of (SPh_rk hI) hI r o isP_chH (chH_ne (by decide)) (by rw [chH_ne (by decide)]; exact PRH_27) (fun p hp c h1 h2 => ?_)
  obtain ⟨i1, i2, i3⟩ := colI_ix (h := h) (p := p) (c := c) (by omega)
  have ci := colI_rng c
  have cv : colI c = if c = -1 then 5 else c := by unfold colI; split <;> split <;> omega
  show _ = cstV (if p < 8 then rkI h p c else 6) _ + _ ∧ _ = digV (if p < 8 then rkI h p c else 6) _ _
  rw [if_pos (show p < 8 by omega)]
  have pp := hL p (by omega)
  have e4 : PRH h 4 = h 4 := PRi_ne (by decide) (by decide) (by decide) (by decide) (by decide) (by decide) (by decide)
  have lt : ((p : Int) * 6 + colI c).toNat < 6 * (h 1 3).toNat := by omega
  rw [chH_ne (a := 20) (by decide), PRH_20, if_pos lt, dgC, i1, i2, i3, show (((colI c).toNat : Nat) : Int) = colI c by omega]
  refine ⟨?_, rfl⟩
  unfold chH
  rw [i1, i2, PRH_19, if_pos lt, csC, i1, i2, i3]
  unfold mvC
  rw [hpl p hp]
  by_cases z : c = -1
  · rw [if_neg (by rw [cv, if_pos z]; omega), if_neg (by simp [z]), Int.add_zero]
  · rw [if_neg z] at cv
    by_cases y : h 4 p ≠ -1 ∧ c ≠ h 4 p
    · rw [if_pos ⟨rfl, by omega, by omega, y.1, by omega⟩, if_pos (by simp; omega)]
    · rw [if_neg (by omega), if_neg (by simp; omega), Int.add_zero]
