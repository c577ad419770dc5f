section VSTATE
variable {d : Nat} {M M' : MT} {X : CT} {pc nx : Nat} {ls : List (Option MV)} {st as : List MV} {h h' : Hp} {Q : Option MV → Hp → Prop}
/-- a method as a function: its answer, and the numbers behind it -/
def Fn (d : Nat) (M : MT) (as : List MV) (h : Hp) (r : Option MV) (h' : Hp) : Prop := ∀ Q, Q r h' → Ct d M as h Q
/-- a method as a relation -/
def Fr (d : Nat) (M : MT) (as : List MV) (h : Hp) (P : Option MV → Hp → Prop) : Prop := ∀ Q, (∀ r g, P r g → Q r g) → Ct d M as h Q
theorem v_fnV (hX : Cx (d + 1) M X) {idx q ci : Nat} {r : MV} (hd : Dc M pc (.invokevirtual idx) 3 nx) (hl : LVk M.1.cls idx M') (hM : MOK M') (ho : OB q ci) (hC : (vwCl[ci]?).map (fun x => x.1) = some M'.1.cls) (hn : as.length = M'.2.2.2.2 ∧ ((mA q :: as).map mcat).sum ≤ M'.2.2.1) (hst : (st.map mcat).sum ≤ 8)
    (hc : Fn d M' (mA q :: as) h (some r) h') {stk : List MV} (hs : stk = as.reverse ++ mA q :: st) (kk : VW X nx ls (r :: st) h') : VW X pc ls stk h :=
  v_callV hX hd hl hM ho hC hn hst (hc (fun a b => a = some r ∧ b = h') ⟨rfl, rfl⟩) hs (fun a b e => by obtain ⟨rfl, rfl⟩ := e; exact kk)
theorem v_fnV0 (hX : Cx (d + 1) M X) {idx q ci : Nat} (hd : Dc M pc (.invokevirtual idx) 3 nx) (hl : LVk M.1.cls idx M') (hM : MOK M') (ho : OB q ci) (hC : (vwCl[ci]?).map (fun x => x.1) = some M'.1.cls) (hn : as.length = M'.2.2.2.2 ∧ ((mA q :: as).map mcat).sum ≤ M'.2.2.1) (hst : (st.map mcat).sum ≤ 8)
    (hc : Fn d M' (mA q :: as) h none h') {stk : List MV} (hs : stk = as.reverse ++ mA q :: st) (kk : VW X nx ls st h') : VW X pc ls stk h :=
  v_callV hX hd hl hM ho hC hn hst (hc (fun a b => a = none ∧ b = h') ⟨rfl, rfl⟩) hs (fun a b e => by obtain ⟨rfl, rfl⟩ := e; exact kk)
theorem v_fnS (hX : Cx (d + 1) M X) {idx : Nat} {r : MV} (hd : Dc M pc (.invokestatic idx) 3 nx) (hl : LSk M.1.cls idx M') (hM : MOK M') (hn : as.length = M'.2.2.2.2 ∧ (as.map mcat).sum ≤ M'.2.2.1) (hst : (st.map mcat).sum ≤ 8)
    (hc : Fn d M' as h (some r) h') {stk : List MV} (hs : stk = as.reverse ++ st) (kk : VW X nx ls (r :: st) h') : VW X pc ls stk h :=
  v_callS hX hd hl hM hn hst (hc (fun a b => a = some r ∧ b = h') ⟨rfl, rfl⟩) hs (fun a b e => by obtain ⟨rfl, rfl⟩ := e; exact kk)
theorem v_fnS0 (hX : Cx (d + 1) M X) {idx : Nat} (hd : Dc M pc (.invokestatic idx) 3 nx) (hl : LSk M.1.cls idx M') (hM : MOK M') (hn : as.length = M'.2.2.2.2 ∧ (as.map mcat).sum ≤ M'.2.2.1) (hst : (st.map mcat).sum ≤ 8)
    (hc : Fn d M' as h none h') {stk : List MV} (hs : stk = as.reverse ++ st) (kk : VW X nx ls st h') : VW X pc ls stk h :=
  v_callS hX hd hl hM hn hst (hc (fun a b => a = none ∧ b = h') ⟨rfl, rfl⟩) hs (fun a b e => by obtain ⟨rfl, rfl⟩ := e; exact kk)
theorem v_frV (hX : Cx (d + 1) M X) {idx q ci : Nat} {P : Option MV → Hp → Prop} (hd : Dc M pc (.invokevirtual idx) 3 nx) (hl : LVk M.1.cls idx M') (hM : MOK M') (ho : OB q ci) (hC : (vwCl[ci]?).map (fun x => x.1) = some M'.1.cls) (hn : as.length = M'.2.2.2.2 ∧ ((mA q :: as).map mcat).sum ≤ M'.2.2.1) (hst : (st.map mcat).sum ≤ 8)
    (hc : Fr d M' (mA q :: as) h P) {stk : List MV} (hs : stk = as.reverse ++ mA q :: st) (kk : ∀ r g, P r g → VW X nx ls (r.toList ++ st) g) : VW X pc ls stk h :=
  v_callV hX hd hl hM ho hC hn hst (hc P (fun _ _ e => e)) hs kk
theorem v_frS (hX : Cx (d + 1) M X) {idx : Nat} {P : Option MV → Hp → Prop} (hd : Dc M pc (.invokestatic idx) 3 nx) (hl : LSk M.1.cls idx M') (hM : MOK M') (hn : as.length = M'.2.2.2.2 ∧ (as.map mcat).sum ≤ M'.2.2.1) (hst : (st.map mcat).sum ≤ 8)
    (hc : Fr d M' as h P) {stk : List MV} (hs : stk = as.reverse ++ st) (kk : ∀ r g, P r g → VW X nx ls (r.toList ++ st) g) : VW X pc ls stk h :=
  v_callS hX hd hl hM hn hst (hc P (fun _ _ e => e)) hs kk
/-- true as 1, false as 0 -/
noncomputable def b01 (P : Prop) : Int := @ite Int P (Classical.propDecidable P) 1 0
theorem b01_t {P : Prop} (h : P) : b01 P = 1 := by unfold b01; exact if_pos h
theorem b01_f {P : Prop} (h : ¬ P) : b01 P = 0 := by unfold b01; exact if_neg h
theorem b01_or (P : Prop) : b01 P = 0 ∨ b01 P = 1 := by
  rcases Classical.em P with h | h
  · exact Or.inr (b01_t h)
  · exact Or.inl (b01_f h)
theorem b01_0 {P : Prop} : b01 P = 0 ↔ ¬ P := ⟨fun e h => absurd ((b01_t h).symm.trans e) (by decide), b01_f⟩
theorem b01_1 {P : Prop} : b01 P = 1 ↔ P := ⟨fun e => Classical.byContradiction (fun h => by rw [b01_f h] at e; cases e), b01_t⟩
theorem b01_iff {P R : Prop} (h : P ↔ R) : b01 P = b01 R := by rw [propext h]
theorem b01_rng (P : Prop) : 0 ≤ b01 P ∧ b01 P ≤ 1 := by rcases b01_or P with h | h <;> rw [h] <;> decide
theorem v_ifB_eq (hX : Cx d M X) {P : Prop} {off : Int} {tgt : Nat} (hd : Dc M pc (.ifCond .eq off) 3 nx) (ht : (pc : Int) + off = (tgt : Int)) (kt : ¬ P → VW X tgt ls st h) (kf : P → VW X nx ls st h) : VW X pc ls (mI (b01 P) :: st) h :=
  v_if_eq hX hd ht ⟨by have := b01_rng P; omega, by have := b01_rng P; omega⟩ (fun e => kt (b01_0.mp e)) (fun e => kf (Classical.byContradiction (fun q => e (b01_0.mpr q))))
theorem v_ifB_ne (hX : Cx d M X) {P : Prop} {off : Int} {tgt : Nat} (hd : Dc M pc (.ifCond .ne off) 3 nx) (ht : (pc : Int) + off = (tgt : Int)) (kt : P → VW X tgt ls st h) (kf : ¬ P → VW X nx ls st h) : VW X pc ls (mI (b01 P) :: st) h :=
  v_if_ne hX hd ht ⟨by have := b01_rng P; omega, by have := b01_rng P; omega⟩ (fun e => kt (Classical.byContradiction (fun q => e (b01_0.mpr q)))) (fun e => kf (b01_0.mp e))
theorem q_t {P : Prop} (hP : P) (hq : Q (some (mI (b01 P))) h) : Q (some (mI 1)) h := by rw [b01_t hP] at hq; exact hq
theorem q_f {P : Prop} (hP : ¬ P) (hq : Q (some (mI (b01 P))) h) : Q (some (mI 0)) h := by rw [b01_f hP] at hq; exact hq
theorem q_i {a b : Int} (e : a = b) (hq : Q (some (mI a)) h) : Q (some (mI b)) h := e ▸ hq
theorem v_tsw (hX : Cx d M X) {dflt lo hi : Int} {offs : Array Int} {len tgt : Nat} {a : Int} (hd : Dc M pc (.tableswitch dflt lo hi offs) len nx) (ha : -2147483648 ≤ a ∧ a < 2147483648 ∧ ¬ a < lo ∧ ¬ hi < a) (ht : offs[(a - lo).toNat]? = some ((tgt : Int) - (pc : Int))) (k : VW X tgt ls st h) : VW X pc ls (mI a :: st) h := by
  obtain ⟨p, l, e, R, s, m, args, below, meth, c, al, tc, D, A, Z, rc, rs⟩ := X
  obtain ⟨hx, hb, hml, hr, hown, hts, hlk, hK, hA, hfr, hlo, hne⟩ := hX
  obtain ⟨hdg, rfl⟩ := hd
  intro H locs la cells slots hP hD hS hl h1 h2
  have e := oi_toInt (z := a) ⟨ha.1, ha.2.1⟩
  exact lv_tableIn (x := Int32.ofInt a) hx hb hdg (by rw [e]; exact ha.2.2.1) (by rw [e]; exact ha.2.2.2) (by rw [e]; exact ht) (by omega) (k H locs la cells slots hP hD hS hl h1 h2)
theorem v_tswD (hX : Cx d M X) {dflt lo hi : Int} {offs : Array Int} {len tgt : Nat} {a : Int} (hd : Dc M pc (.tableswitch dflt lo hi offs) len nx) (ha : -2147483648 ≤ a ∧ a < 2147483648 ∧ (a < lo ∨ hi < a)) (ht : (pc : Int) + dflt = (tgt : Int)) (k : VW X tgt ls st h) : VW X pc ls (mI a :: st) h := by
  obtain ⟨p, l, e, R, s, m, args, below, meth, c, al, tc, D, A, Z, rc, rs⟩ := X
  obtain ⟨hx, hb, hml, hr, hown, hts, hlk, hK, hA, hfr, hlo, hne⟩ := hX
  obtain ⟨hdg, rfl⟩ := hd
  intro H locs la cells slots hP hD hS hl h1 h2
  have e := oi_toInt (z := a) ⟨ha.1, ha.2.1⟩
  exact lv_tableOut (x := Int32.ofInt a) hx hb hdg (by rw [e]; exact ha.2.2) ht (k H locs la cells slots hP hD hS hl h1 h2)
theorem v_lsw (hX : Cx d M X) {dflt : Int} {ps : Array (Int × Int)} {len tgt : Nat} {a : Int} (hd : Dc M pc (.lookupswitch dflt ps) len nx) (ha : -2147483648 ≤ a ∧ a < 2147483648 ∧ (ps.toList.zip (ps.toList.drop 1)).all (fun (a, next) => a.1 < next.1) = true) (ht : Op.lookupswitch.offset ps.toList dflt a = (tgt : Int) - (pc : Int)) (k : VW X tgt ls st h) : VW X pc ls (mI a :: st) h := by
  obtain ⟨p, l, e, R, s, m, args, below, meth, c, al, tc, D, A, Z, rc, rs⟩ := X
  obtain ⟨hx, hb, hml, hr, hown, hts, hlk, hK, hA, hfr, hlo, hne⟩ := hX
  obtain ⟨hdg, rfl⟩ := hd
  intro H locs la cells slots hP hD hS hl h1 h2
  have e := oi_toInt (z := a) ⟨ha.1, ha.2.1⟩
  exact lv_lookup (x := Int32.ofInt a) hx hb hdg ha.2.2 (by rw [e]; exact ht) (tgt := tgt) (show (pc : Int) + ((tgt : Int) - (pc : Int)) = (tgt : Int) by omega) (k H locs la cells slots hP hD hS hl h1 h2)
/-! places -/
theorem OB_pu {i : Nat} (h : i < 8) : OB (23 + i) 3 := by
  rcases i with _ | _ | _ | _ | _ | _ | _ | _ | i
  all_goals first | exact ⟨by decide, rfl⟩ | omega
theorem OB_pr {i : Nat} (h : i < 5) : OB (39 + i) 2 := by
  rcases i with _ | _ | _ | _ | _ | i
  all_goals first | exact ⟨by decide, rfl⟩ | omega
theorem AR_rk {i : Nat} (h : i < 8) : AR (31 + i) 0 5 := by
  rcases i with _ | _ | _ | _ | _ | _ | _ | _ | i
  all_goals first | exact ⟨by decide, rfl⟩ | omega
theorem RF_rk {i : Nat} (h : i < 8) : RF (23 + i) 0 = some (31 + i) := by
  rcases i with _ | _ | _ | _ | _ | _ | _ | _ | i
  all_goals first | rfl | omega
theorem RF_pu {i : Int} (h : 0 ≤ i ∧ i < 8) : RF 8 i.toNat = some (23 + i.toNat) := by
  have : i.toNat < 8 := by omega
  generalize i.toNat = j at this
  rcases j with _ | _ | _ | _ | _ | _ | _ | _ | j
  all_goals first | rfl | omega
theorem RF_pr {i : Int} (h : 0 ≤ i ∧ i < 5) : RF 9 i.toNat = some (39 + i.toNat) := by
  have : i.toNat < 5 := by omega
  generalize i.toNat = j at this
  rcases j with _ | _ | _ | _ | _ | j
  all_goals first | rfl | omega
/-! writes and reads -/
theorem up_same {h : Hp} {k j : Nat} {v : Int} : up h k j v k j = v := by simp [up]
theorem up_ne {h : Hp} {k j a b : Nat} {v : Int} (e : ¬ (a = k ∧ b = j)) : up h k j v a b = h a b := by simp only [up, if_neg e]
theorem up_ob {h : Hp} {k j a b : Nat} {v : Int} (e : a ≠ k) : up h k j v a b = h a b := up_ne (fun q => e q.1)
theorem up_obf {h : Hp} {k j a : Nat} {v : Int} (e : a ≠ k) : up h k j v a = h a := funext fun _ => up_ob e
/-- a loop that counts up: W at i from W at i + 1, until W at n -/
theorem loop_up {W : Nat → Prop} (n : Nat) (hn : W n) (hs : ∀ i, i < n → W (i + 1) → W i) : ∀ i, i ≤ n → W i := by
  intro i hi
  induction hk : n - i generalizing i with
  | zero => exact (show i = n by omega) ▸ hn
  | succ k ih => exact hs i (by omega) (ih (i + 1) (by omega) (by omega))
/-- the same with a state that the loop changes -/
theorem loop_st {σ : Type} {P : Nat → σ → Prop} {W : Nat → σ → Prop} (n : Nat) (hn : ∀ s, P n s → W n s) (hs : ∀ i s, i < n → P i s → (∀ s', P (i + 1) s' → W (i + 1) s') → W i s) : ∀ i s, i ≤ n → P i s → W i s := by
  intro i s hi hp
  induction hk : n - i generalizing i s with
  | zero =>
    have e : i = n := by omega
    subst e
    exact hn s hp
  | succ k ih => exact hs i s (by omega) hp (fun s' hp' => ih (i + 1) s' (by omega) hp' (by omega))
end VSTATE
