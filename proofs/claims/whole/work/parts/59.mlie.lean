/-! the model's lie -/
theorem RK.congr {g x : Hp} {p : Nat} {rf : Int → Int} (k : RK g p rf) (h1 : x 47 p = g 47 p) (h2 : ∀ i, i < 5 → x 48 (5 * p + i) = g 48 (5 * p + i)) : RK x p rf := by
  obtain ⟨k1, k2, k3⟩ := k
  refine ⟨by rw [h1]; exact k1, fun i hi => ?_, fun j hj => ?_⟩
  · rw [h1] at hi
    rw [h2 i (by omega)]
    exact k2 i hi
  · obtain ⟨i, i1, i2⟩ := k3 j hj
    exact ⟨i, by rw [h1]; exact i1, by rw [h2 i (by omega)]; exact i2⟩
def MLg (g x : Hp) : Prop := ∀ a j, ¬ (a = 44 ∧ 18 ≤ j ∧ j ≤ 28) → a ≠ 60 → a ≠ 61 → a ≠ 62 → a ≠ 63 → x a j = g a j
theorem MLg.ob {g x : Hp} (m : MLg g x) {a : Nat} (h : a ≠ 44) (h1 : a ≠ 60) (h2 : a ≠ 61) (h3 : a ≠ 62) (h4 : a ≠ 63) : x a = g a := funext fun j => m a j (fun z => h z.1) h1 h2 h3 h4
def cpF (y : Hp) (k : Nat) (f : Nat → Int) (i : Nat) : Hp := fun a b => if a = k ∧ b < i then f b else y a b
theorem cpF_0 {y : Hp} {k : Nat} {f : Nat → Int} : cpF y k f 0 = y := by funext a b; simp [cpF]
theorem cpF_s {y : Hp} {k i : Nat} {f : Nat → Int} : up (cpF y k f i) k i (f i) = cpF y k f (i + 1) := by
  funext a b
  unfold up cpF
  by_cases h1 : a = k ∧ b = i
  · obtain ⟨rfl, rfl⟩ := h1; simp
  · rw [if_neg h1]
    by_cases h2 : a = k ∧ b < i
    · rw [if_pos h2, if_pos ⟨h2.1, by omega⟩]
    · rw [if_neg h2, if_neg (fun z => by
        by_cases h3 : b = i
        · exact h1 ⟨z.1, h3⟩
        · exact h2 ⟨z.1, by omega⟩)]
theorem cpF_o {y : Hp} {k i a : Nat} {f : Nat → Int} (h : a ≠ k) : cpF y k f i a = y a := by funext b; unfold cpF; rw [if_neg (fun z => h z.1)]
/-- a piece of the WISHES row -/
def wrw (y : Hp) (o : Nat) (f : Nat → Int) (i : Nat) : Hp := fun a b => if a = 48 ∧ o ≤ b ∧ b < o + i then f (b - o) else y a b
theorem wrw_0 {y : Hp} {o : Nat} {f : Nat → Int} : wrw y o f 0 = y := by
  funext a b
  unfold wrw
  rw [if_neg (by omega)]
theorem wrw_s {y : Hp} {o i : Nat} {f : Nat → Int} : up (wrw y o f i) 48 (o + i) (f i) = wrw y o f (i + 1) := by
  funext a b
  unfold up wrw
  by_cases h1 : a = 48 ∧ b = o + i
  · obtain ⟨rfl, rfl⟩ := h1
    rw [if_pos ⟨rfl, rfl⟩, if_pos ⟨rfl, by omega, by omega⟩, show o + i - o = i by omega]
  · rw [if_neg h1]
    by_cases h2 : a = 48 ∧ o ≤ b ∧ b < o + i
    · rw [if_pos h2, if_pos ⟨h2.1, h2.2.1, by omega⟩]
    · rw [if_neg h2, if_neg (fun z => by omega)]
theorem wrw_o {y : Hp} {o i a : Nat} {f : Nat → Int} (h : a ≠ 48) : wrw y o f i a = y a := by funext b; unfold wrw; rw [if_neg (fun z => h z.1)]
theorem wrw_in {y : Hp} {o i k : Nat} {f : Nat → Int} (h : k < i) : wrw y o f i 48 (o + k) = f k := by
  unfold wrw; rw [if_pos ⟨rfl, by omega, by omega⟩, show o + k - o = k by omega]
theorem wrw_out {y : Hp} {o i b : Nat} {f : Nat → Int} (h : ¬ (o ≤ b ∧ b < o + i)) : wrw y o f i 48 b = y 48 b := by
  unfold wrw; rw [if_neg (fun z => h z.2)]
theorem HYR_e {g e : Hp} {p : Nat} {pl s : Int} {tr : Nat → Int} (y : HYR g e) : HYR g (eT e p pl s tr) := by
  obtain ⟨a, b, c, d, ef, q⟩ := y
  exact ⟨a, b, c, d, ⟨by rw [eT_o (by decide) (by decide)]; exact ef.1, fun j => by rw [eT_isP]; exact ef.2.1 j, fun g hg => by rw [eT_o (by decide) (by decide)]; exact ef.2.2 g hg⟩, q⟩
theorem bsR_any {h : Hp} (hE : ENV (PRH h)) : 0 < (bsR h).2.2.1 ↔ anyOk (PRH h) 8 (fun _ => -1) := by
  have e : bsR h = ext (PRH h) 1 8 (fun _ => -1) (ABV, ABV, 0, PRH h 16) := by
    unfold bsR
    exact ext_congr 8 _ _ _ (Nat.le_refl 8) (fun j hj _ => PRH_15 hj)
  rw [e, (ext_any hE 8 _ _ ⟨by show (0 : Int) ≤ 0; omega, fun _ => rfl⟩).2]
  exact ⟨fun z => z.elim (fun y => absurd (show (0 : Int) < 0 from y) (by omega)) id, Or.inr⟩
theorem tlR_any {e : Hp} {p : Nat} {pl s : Int} {tr : Nat → Int} (hE : ENV (eT e p pl s tr)) : 0 < (tlR e p pl s tr).2.2.1 ↔ anyOk e 8 (fun _ => -1) := by
  unfold tlR
  rw [(ext_any hE 8 _ _ ⟨by show (0 : Int) ≤ 0; omega, fun _ => rfl⟩).2, anyOk_env eT_isP (by rw [eT_o (by decide) (by decide)]) (eT_o (by decide) (by decide))]
  exact ⟨fun z => z.elim (fun y => absurd (show (0 : Int) < 0 from y) (by omega)) id, Or.inr⟩
noncomputable def payT (h : Hp) (p : Nat) : (Nat → Int) → Prop := payC (PRH h) p (plc h p) (h (23 + p) 3) (rkI h p ((bsR h).2.2.2 p)) (h 1 4).toNat (h 7)
def mlR (h g : Hp) (p m : Nat) (f0 : Nat → Int) (r : Option MV) (x : Hp) : Prop :=
  (tlC (payT h p) (h 1 4).toNat m f0 = none ∧ r = some (mI 0) ∧ MLg g x) ∨
  (∃ f z, tlC (payT h p) (h 1 4).toNat m f0 = some f ∧ PF f (h 1 4).toNat ∧ r = some (mI 1) ∧ MLg g z ∧ x = cpF (up z 44 36 (h 1 4)) 67 f (h 1 4).toNat)
set_option maxHeartbeats 2000000 in
set_option maxRecDepth 20000 in
theorem c_X8_lie {d : Nat} {h0 h g : Hp} {p : Nat} (hg : up h0 44 0 0 = g) (y0 : HYR g (PRH h)) (v : PV (SPh h) g) (hk : ∀ k, k = 1 ∨ k = 10 ∨ (23 ≤ k ∧ k < 44) → g k = h k) (hI : RI h) (rl : RLr h) (o : OPM h) (hS : SCI h) (hT : ∀ j, j < 5 → 0 ≤ h 7 j ∧ h 7 j ≤ 6) (w : ∀ p, p < (h 1 3).toNat → WR h g p) (hp : p < (h 1 3).toNat) (hpr : prF h p = true) (hc : cntF (prF h) (h 1 3).toNat ≤ 5) :
    Fr (d + 15) MX8_lie [mA 44, mI p] h0 (fun r x => (¬ 0 < (bsR h).2.2.1 ∧ r = some (mI (-2)) ∧ MLg g x) ∨ (0 < (bsR h).2.2.1 ∧ mlR h g p 120 (idF (g 62) 5) r x)) := by
  intro Q hq X hX hR
  have hn := hI.n
  have hm := hI.q
  have hE := PRH_ENV hI hS
  have g1 : g 1 = h 1 := hk 1 (by omega)
  have en : g 44 1 = h 1 3 := by rw [y0.2.1.n, g1]
  have eq : g 44 11 = h 1 4 := by rw [y0.2.1.q, g1]
  have hz : h (23 + p) 6 = 1 := by simpa [prF] using hpr
  have g46 : g 46 p = 1 := by rw [(y0.2.1.pu (p := p) (by rw [g1]; exact hp)).2, hk (23 + p) (by omega)]; exact hz
  have pc : cntF (prF g) (g 1 3).toNat = cntF (prF h) (h 1 3).toNat := by
    rw [g1]
    exact cntF_congr _ (fun i hi => by rw [prF, prF, hk (23 + i) (by omega)])
  have hsc := (hI.pu (p := p) (by omega)).2.2.1
  have wp := w p hp
  have rkg : RK g p (rkI h p) := wp.rk hm.2
  have gsr : ∀ x : Hp, (∀ k, k = 1 ∨ k = 10 ∨ (23 ≤ k ∧ k < 44) → x k = g k) → (∀ k, k = 45 ∨ k = 46 ∨ (51 ≤ k ∧ k < 60) → x k = g k) → x 44 1 = g 44 1 → x 44 11 = g 44 11 → SR g x := fun x a b c e => ⟨a, b, c, e⟩
  have Yg := HYP_all (a := 2) y0 v (by omega)
  have rel := REL2_ok (pl := fun p => (plc h p).toNat) Yg hE (CEN_PRH hI rl o) (by rw [alH_28]; decide) (fun t w => by rw [mvT0, mvs, if_neg (by rw [alH_28]; decide)])
  have r0 : REL2 (alH g 2) (PRH h) (SPh h) mv0 (alH g 2) (ABV, ABV, 0, PRH h 16) := ⟨by rw [alH_27]; decide, Or.inl ⟨alH_23, rfl, rfl, rfl⟩⟩
  have call := c_X8_all (d := d) Yg rel (t := PRH h 15) (fun j hj => PRH_15 hj) r0 rfl
  -- the end of it: told
  have tellL : ∀ (i : Nat) (z : Hp) (f : Nat → Int), i ≤ (h 1 4).toNat → MLg g z → z 62 = f → (∀ r x, r = some (mI 1) → x = cpF (up z 44 36 (h 1 4)) 67 f (h 1 4).toNat → Q r x) → ∀ l2 l3 l4 l7, VW X 281 [some (mA 44), some (mI p), l2, l3, l4, some (mI 1), some (mI i), l7] [] (cpF (up z 44 36 (h 1 4)) 67 f i) := by
    intro i z f hi mz z62 fin
    revert i
    refine loop_up _ ?_ ?_
    · intro l2 l3 l4 l7
      have z11 : cpF (up z 44 36 (h 1 4)) 67 f (h 1 4).toNat 44 11 = ((h 1 4).toNat : Nat) := by rw [cpF_o (by decide), up_ne (by omega), mz 44 11 (by omega) (by omega) (by omega) (by omega) (by omega), eq]; omega
      have f0 := fin _ _ rfl rfl
      refine v_iload hX eX8_lie_281 rfl ?_
      refine v_aload_n hX eX8_lie_283 rfl ?_
      refine v_getI hX eX8_lie_284 fi_X8_91 ⟨by decide, rfl⟩ ?_
      rw [z11]
      refine v_icmp_ge hX eX8_lie_287 (tgt := 310) rfl ⟨by omega, by omega⟩ ⟨by omega, by omega⟩ (fun c287 => ?_) (fun c287 => False.elim ((by omega)))
      refine v_iconst hX eX8_lie_310 ?_
      exact v_ireturn hX hR eX8_lie_311 rfl (f0)
    · intro i hi ih l2 l3 l4 l7
      have z11 : cpF (up z 44 36 (h 1 4)) 67 f i 44 11 = ((h 1 4).toNat : Nat) := by rw [cpF_o (by decide), up_ne (by omega), mz 44 11 (by omega) (by omega) (by omega) (by omega) (by omega), eq]; omega
      have zf : cpF (up z 44 36 (h 1 4)) 67 f i 62 i = f i := by rw [cpF_o (by decide), up_ob (by decide), z62]
      refine v_iload hX eX8_lie_281 rfl ?_
      refine v_aload_n hX eX8_lie_283 rfl ?_
      refine v_getI hX eX8_lie_284 fi_X8_91 ⟨by decide, rfl⟩ ?_
      rw [z11]
      refine v_icmp_ge hX eX8_lie_287 (tgt := 310) rfl ⟨by omega, by omega⟩ ⟨by omega, by omega⟩ (fun c287 => False.elim ((by omega))) (fun c287 => ?_)
      refine v_aload_n hX eX8_lie_290 rfl ?_
      refine v_getA hX eX8_lie_291 fi_X8_77 ⟨by decide, rfl⟩ rfl ?_
      refine v_iload hX eX8_lie_294 rfl ?_
      refine v_aload_n hX eX8_lie_296 rfl ?_
      refine v_getA hX eX8_lie_297 fi_X8_62 ⟨by decide, rfl⟩ rfl ?_
      refine v_iload hX eX8_lie_300 rfl ?_
      refine v_iald hX eX8_lie_302 (by first | exact ⟨by decide, rfl⟩ | exact hk | exact hk2 | exact AR_rk (by omega)) ⟨by omega, by omega⟩ ?_
      try simp only [Int.toNat_natCast, Int.toNat_zero, Int.reduceToNat]
      rw [zf]
      refine v_iast hX eX8_lie_303 (by first | exact ⟨by decide, rfl⟩ | exact hk | exact hk2 | exact AR_rk (by omega)) ⟨by omega, by omega⟩ ?_
      try simp only [Int.toNat_natCast, Int.toNat_zero, Int.reduceToNat]
      rw [cpF_s]
      refine v_iinc hX eX8_lie_304 rfl rfl rfl ?_
      refine v_goto hX eX8_lie_307 (tgt := 281) rfl ?_
      exact ih _ _ _ _
  -- the rows, one after the other
  have loop : 0 < (bsR h).2.2.1 → 0 < (h 1 4).toNat → ∀ (m : Nat) (f : Nat → Int) (x : Hp), ENDS (h 1 4).toNat m f → PF f (h 1 4).toNat → INJ f (h 1 4).toNat → MLg g x → x 62 = f → (∀ k, k < 5 → x 63 k = g 48 (5 * p + k)) → (∀ r x, mlR h g p m f r x → Q r x) → ∀ l6 l7, VW X 114 [some (mA 44), some (mI p), some (mI (g 47 p)), some (mI (rkI h p ((bsR h).2.2.2 p))), some (mI 0), some (mI 1), l6, l7] [] x := by
    intro hb hL m
    induction m with
    | zero => intro f x he; exact he.elim
    | succ m ih =>
      intro f x he pf inj mx x62 x63 hq l6 l7
      have x11 : x 44 11 = ((h 1 4).toNat : Nat) := by rw [mx 44 11 (by omega) (by omega) (by omega) (by omega) (by omega), eq]; omega
      -- the row is told
      let x1 : Hp := up x 47 p ((h 1 4).toNat : Nat)
      let z1 : Hp := wrw x1 (5 * p) f (h 1 4).toNat
      have z1o : ∀ a, a ≠ 47 → a ≠ 48 → z1 a = x a := fun a h1 h2 => by
        show wrw x1 (5 * p) f (h 1 4).toNat a = x a
        rw [wrw_o h2]
        exact up_obf h1
      have z1g : ∀ a, a ≠ 47 → a ≠ 48 → a ≠ 44 → a ≠ 60 → a ≠ 61 → a ≠ 62 → a ≠ 63 → z1 a = g a := fun a h1 h2 h3 h4 h5 h6 h7 => by rw [z1o a h1 h2]; exact mx.ob h3 h4 h5 h6 h7
      have z1m : ∀ j, j < 18 → z1 44 j = g 44 j := fun j hj => by rw [z1o 44 (by decide) (by decide)]; exact mx 44 j (by omega) (by omega) (by omega) (by omega) (by omega)
      have sr1 : SR g z1 := gsr z1 (fun k hk => z1g k (by omega) (by omega) (by omega) (by omega) (by omega) (by omega) (by omega)) (fun k hk => z1g k (by omega) (by omega) (by omega) (by omega) (by omega) (by omega) (by omega)) (z1m 1 (by omega)) (z1m 11 (by omega))
      have z147 : ∀ a, a ≠ p → z1 47 a = g 47 a := fun a ha => by
        show wrw x1 (5 * p) f (h 1 4).toNat 47 a = _
        rw [wrw_o (by decide)]
        show up x 47 p _ 47 a = _
        rw [up_ne (fun z => ha z.2)]
        exact mx 47 a (by omega) (by omega) (by omega) (by omega) (by omega)
      have z148 : ∀ b, ¬ (5 * p ≤ b ∧ b < 5 * p + (h 1 4).toNat) → z1 48 b = g 48 b := fun b hb => by
        show wrw x1 (5 * p) f (h 1 4).toNat 48 b = _
        rw [wrw_out hb]
        show up x 47 p _ 48 b = _
        rw [up_ob (by decide)]
        exact mx 48 b (by omega) (by omega) (by omega) (by omega) (by omega)
      have v1 : PV (SPt h p f (h 1 4).toNat) z1 := PV_tell hI v (by omega) pf inj (z1m 1 (by omega)) (fun k hk => z1g k (by omega) (by omega) (by omega) (by omega) (by omega) (by omega) (by omega)) z147 (fun a k ha hk5 => z148 _ (by omega)) (by
        show wrw x1 (5 * p) f (h 1 4).toNat 47 p = _
        rw [wrw_o (by decide)]
        exact up_same) (fun k hk5 => wrw_in hk5)
      have trr : ∀ j, j < 5 → 0 ≤ trN f (h 7) (h 1 4).toNat j ∧ trN f (h 7) (h 1 4).toNat j ≤ 6 := trN_rng hT _ (by omega)
      have hE1 := ENV_eT (pl := plc h p) (s := h (23 + p) 3) (tr := trN f (h 7) (h 1 4).toNat) hE (show p < 8 by omega) hsc trr
      have ye := (HYR_e (p := p) (pl := plc h p) (s := h (23 + p) 3) (tr := trN f (h 7) (h 1 4).toNat) y0).sr sr1 (z1g 50 (by decide) (by decide) (by decide) (by decide) (by decide) (by decide) (by decide))
      have Y1 := HYP_all (a := 2) ye v1 (by omega)
      have rel1 := REL2_ok (pl := fun p => (plc h p).toNat) Y1 hE1 (CEN_eT (tr0 := h 7) hI rl o hp pf inj) (by rw [alH_28]; decide) (fun t w => by rw [mvT0, mvs, if_neg (by rw [alH_28]; decide)])
      have r1 : REL2 (alH z1 2) (eT (PRH h) p (plc h p) (h (23 + p) 3) (trN f (h 7) (h 1 4).toNat)) (SPt h p f (h 1 4).toNat) mv0 (alH z1 2) (ABV, ABV, 0, fun _ => 0) := ⟨by rw [alH_27]; decide, Or.inl ⟨alH_23, rfl, rfl, rfl⟩⟩
      have call1 := c_X8_all (d := d) Y1 rel1 (t := fun _ => -1) (fun _ _ => rfl) r1 rfl
      have hit : 0 < (tlR (PRH h) p (plc h p) (h (23 + p) 3) (trN f (h 7) (h 1 4).toNat)).2.2.1 := (tlR_any hE1).mpr ((bsR_any hE).mp hb)
      -- behind the search, with the WISHES as they were
      have after : ∀ (z2 : Hp) (got : Int), MLg g z2 → z2 62 = f → (∀ k, k < 5 → z2 63 k = g 48 (5 * p + k)) → got = (tlR (PRH h) p (plc h p) (h (23 + p) 3) (trN f (h 7) (h 1 4).toNat)).2.2.2 p → rng got → ∀ l4 l7, VW X 223 [some (mA 44), some (mI p), some (mI (g 47 p)), some (mI (rkI h p ((bsR h).2.2.2 p))), l4, some (mI 1), some (mI got), l7] [] z2 := by
        intro z2 got m2 z62 z63 eg hgr l4 l7
        have rk2 : RK z2 p (rkI h p) := rkg.congr (m2 47 p (by omega) (by omega) (by omega) (by omega) (by omega)) (fun i _ => m2 48 _ (by omega) (by omega) (by omega) (by omega) (by omega))
        have rr := rkI_rng hI (p := p) (by omega) got
        have rr0 := rkI_rng hI (p := p) (by omega) ((bsR h).2.2.2 p)
        have ep : rkI (PRH h) p = rkI h p := by
          funext q
          unfold rkI
          rw [show PRH h (31 + p) = h (31 + p) from PRi_ne (by omega) (by omega) (by omega) (by omega) (by omega) (by omega) (by omega)]
        have pay : payT h p f ↔ rkI h p got < rkI h p ((bsR h).2.2.2 p) := by
          unfold payT payC
          rw [ep, ← eg]
          exact ⟨fun z => z.2, fun z => ⟨hit, z⟩⟩
        have z11 : z2 44 11 = h 1 4 := by rw [m2 44 11 (by omega) (by omega) (by omega) (by omega) (by omega), eq]
        by_cases hpay : payT h p f
        · have tl := tellL 0 z2 f (by omega) m2 z62 (fun r x e1 e2 => hq r x (Or.inr ⟨f, z2, by rw [tlC, if_pos (pb_iff.mpr hpay)], pf, e1, m2, e2⟩))
          rw [cpF_0] at tl
          have hlt := pay.mp hpay
          refine v_aload_n hX eX8_lie_223 rfl ?_
          refine v_iload_n hX eX8_lie_224 rfl ?_
          refine v_iload hX eX8_lie_225 rfl ?_
          refine v_fnV hX eX8_lie_227 lV_X8_136 ok_MX8_rankOf ⟨by decide, rfl⟩ rfl ⟨rfl, Nat.le_of_ble_eq_true rfl⟩ (Nat.le_of_ble_eq_true rfl) (c_X8_rankOf (by omega) rk2 hgr) rfl ?_
          try simp only [Int.toNat_natCast, Int.toNat_zero, Int.reduceToNat]
          refine v_iload_n hX eX8_lie_230 rfl ?_
          refine v_icmp_ge hX eX8_lie_231 (tgt := 238) rfl ⟨by omega, by omega⟩ ⟨by omega, by omega⟩ (fun c231 => False.elim ((by omega))) (fun c231 => ?_)
          refine v_iconst hX eX8_lie_234 ?_
          refine v_goto hX eX8_lie_235 (tgt := 239) rfl ?_
          refine v_istore hX eX8_lie_239 rfl rfl ?_
          refine v_iload hX eX8_lie_241 rfl ?_
          refine v_if_ne hX eX8_lie_243 (tgt := 253) rfl ⟨by omega, by omega⟩ (fun c243 => ?_) (fun c243 => False.elim ((by omega)))
          refine v_iconst hX eX8_lie_253 ?_
          refine v_goto hX eX8_lie_254 (tgt := 258) rfl ?_
          refine v_istore hX eX8_lie_258 rfl rfl ?_
          refine v_goto hX eX8_lie_260 (tgt := 114) rfl ?_
          refine v_iload hX eX8_lie_114 rfl ?_
          refine v_if_eq hX eX8_lie_116 (tgt := 263) rfl ⟨by omega, by omega⟩ (fun c116 => False.elim ((by omega))) (fun c116 => ?_)
          refine v_iload hX eX8_lie_119 rfl ?_
          refine v_if_ne hX eX8_lie_121 (tgt := 263) rfl ⟨by omega, by omega⟩ (fun c121 => ?_) (fun c121 => False.elim ((by omega)))
          refine v_iload hX eX8_lie_263 rfl ?_
          refine v_if_ne hX eX8_lie_265 (tgt := 270) rfl ⟨by omega, by omega⟩ (fun c265 => ?_) (fun c265 => False.elim ((by omega)))
          refine v_aload_n hX eX8_lie_270 rfl ?_
          refine v_aload_n hX eX8_lie_271 rfl ?_
          refine v_getI hX eX8_lie_272 fi_X8_91 ⟨by decide, rfl⟩ ?_
          refine v_putI hX eX8_lie_275 fi_X8_128 ⟨by decide, rfl⟩ ?_
          rw [z11]
          refine v_iconst hX eX8_lie_278 ?_
          refine v_istore hX eX8_lie_279 rfl rfl ?_
          exact tl _ _ _ _
        · have hge : ¬ rkI h p got < rkI h p ((bsR h).2.2.2 p) := fun z => hpay (pay.mpr z)
          have ncall := c_X8_nextOrder (d := d + 13) (h := z2) (L := (h 1 4).toNat) (f := f) ⟨hL, by omega⟩ pf (by rw [z11]; omega)
          rw [show setR z2 62 f = z2 from by rw [← z62]; exact setR_self] at ncall
          by_cases hneg : tnF f ((h 1 4).toNat - 1) < 0
          · rw [if_pos hneg, show setR z2 62 f = z2 from by rw [← z62]; exact setR_self] at ncall
            have fin := hq (some (mI 0)) z2 (Or.inl ⟨by rw [tlC, if_neg (fun z => hpay (pb_iff.mp z)), if_pos hneg], rfl, m2⟩)
            refine v_aload_n hX eX8_lie_223 rfl ?_
            refine v_iload_n hX eX8_lie_224 rfl ?_
            refine v_iload hX eX8_lie_225 rfl ?_
            refine v_fnV hX eX8_lie_227 lV_X8_136 ok_MX8_rankOf ⟨by decide, rfl⟩ rfl ⟨rfl, Nat.le_of_ble_eq_true rfl⟩ (Nat.le_of_ble_eq_true rfl) (c_X8_rankOf (by omega) rk2 hgr) rfl ?_
            try simp only [Int.toNat_natCast, Int.toNat_zero, Int.reduceToNat]
            refine v_iload_n hX eX8_lie_230 rfl ?_
            refine v_icmp_ge hX eX8_lie_231 (tgt := 238) rfl ⟨by omega, by omega⟩ ⟨by omega, by omega⟩ (fun c231 => ?_) (fun c231 => False.elim ((by omega)))
            refine v_iconst hX eX8_lie_238 ?_
            refine v_istore hX eX8_lie_239 rfl rfl ?_
            refine v_iload hX eX8_lie_241 rfl ?_
            refine v_if_ne hX eX8_lie_243 (tgt := 253) rfl ⟨by omega, by omega⟩ (fun c243 => False.elim ((by omega))) (fun c243 => ?_)
            refine v_aload_n hX eX8_lie_246 rfl ?_
            refine v_fnV hX eX8_lie_247 lV_X8_243 ok_MX8_nextOrder ⟨by decide, rfl⟩ rfl ⟨rfl, Nat.le_of_ble_eq_true rfl⟩ (Nat.le_of_ble_eq_true rfl) (ncall) rfl ?_
            try simp only [Int.toNat_natCast, Int.toNat_zero, Int.reduceToNat]
            refine v_ifB_eq hX eX8_lie_250 (tgt := 257) rfl (fun c250 => ?_) (fun c250 => False.elim ((c250 hneg)))
            refine v_iconst hX eX8_lie_257 ?_
            refine v_istore hX eX8_lie_258 rfl rfl ?_
            refine v_goto hX eX8_lie_260 (tgt := 114) rfl ?_
            refine v_iload hX eX8_lie_114 rfl ?_
            refine v_if_eq hX eX8_lie_116 (tgt := 263) rfl ⟨by omega, by omega⟩ (fun c116 => ?_) (fun c116 => False.elim ((by omega)))
            refine v_iload hX eX8_lie_263 rfl ?_
            refine v_if_ne hX eX8_lie_265 (tgt := 270) rfl ⟨by omega, by omega⟩ (fun c265 => False.elim ((by omega))) (fun c265 => ?_)
            refine v_iconst hX eX8_lie_268 ?_
            exact v_ireturn hX hR eX8_lie_269 rfl (fin)
          · rw [if_neg hneg] at ncall
            have nx := ih (nxA (h 1 4).toNat f) (setR z2 62 (nxA (h 1 4).toNat f)) (he.resolve_left hneg) (PF_nx pf hL hneg) (INJ_nx inj hL hneg) (fun a j h1 h2 h3 h4 h5 => by rw [setR_ne h4]; exact m2 a j h1 h2 h3 h4 h5) setR_same (fun k hk5 => by rw [setR_ne (by decide)]; exact z63 k hk5) (fun r x hr => hq r x (by
              have et : tlC (payT h p) (h 1 4).toNat (m + 1) f = tlC (payT h p) (h 1 4).toNat m (nxA (h 1 4).toNat f) := by rw [tlC, if_neg (fun z => hpay (pb_iff.mp z)), if_neg hneg]
              unfold mlR at hr ⊢
              rw [et]
              exact hr))
            refine v_aload_n hX eX8_lie_223 rfl ?_
            refine v_iload_n hX eX8_lie_224 rfl ?_
            refine v_iload hX eX8_lie_225 rfl ?_
            refine v_fnV hX eX8_lie_227 lV_X8_136 ok_MX8_rankOf ⟨by decide, rfl⟩ rfl ⟨rfl, Nat.le_of_ble_eq_true rfl⟩ (Nat.le_of_ble_eq_true rfl) (c_X8_rankOf (by omega) rk2 hgr) rfl ?_
            try simp only [Int.toNat_natCast, Int.toNat_zero, Int.reduceToNat]
            refine v_iload_n hX eX8_lie_230 rfl ?_
            refine v_icmp_ge hX eX8_lie_231 (tgt := 238) rfl ⟨by omega, by omega⟩ ⟨by omega, by omega⟩ (fun c231 => ?_) (fun c231 => False.elim ((by omega)))
            refine v_iconst hX eX8_lie_238 ?_
            refine v_istore hX eX8_lie_239 rfl rfl ?_
            refine v_iload hX eX8_lie_241 rfl ?_
            refine v_if_ne hX eX8_lie_243 (tgt := 253) rfl ⟨by omega, by omega⟩ (fun c243 => False.elim ((by omega))) (fun c243 => ?_)
            refine v_aload_n hX eX8_lie_246 rfl ?_
            refine v_fnV hX eX8_lie_247 lV_X8_243 ok_MX8_nextOrder ⟨by decide, rfl⟩ rfl ⟨rfl, Nat.le_of_ble_eq_true rfl⟩ (Nat.le_of_ble_eq_true rfl) (ncall) rfl ?_
            try simp only [Int.toNat_natCast, Int.toNat_zero, Int.reduceToNat]
            refine v_ifB_eq hX eX8_lie_250 (tgt := 257) rfl (fun c250 => False.elim ((c250 hneg))) (fun c250 => ?_)
            refine v_iconst hX eX8_lie_253 ?_
            refine v_goto hX eX8_lie_254 (tgt := 258) rfl ?_
            refine v_istore hX eX8_lie_258 rfl rfl ?_
            refine v_goto hX eX8_lie_260 (tgt := 114) rfl ?_
            exact nx _ _
      -- the WISHES are put back
      have back : ∀ (y2 : Hp) (got : Int), (∀ a j, ¬ (a = 44 ∧ 18 ≤ j ∧ j ≤ 28) → a ≠ 60 → a ≠ 61 → y2 a j = z1 a j) → got = (tlR (PRH h) p (plc h p) (h (23 + p) 3) (trN f (h 7) (h 1 4).toNat)).2.2.2 p → rng got → ∀ i : Nat, i ≤ 5 → ∀ l4, VW X 193 [some (mA 44), some (mI p), some (mI (g 47 p)), some (mI (rkI h p ((bsR h).2.2.2 p))), l4, some (mI 1), some (mI got), some (mI i)] [] (wrw (up y2 47 p (g 47 p)) (5 * p) (fun k => g 48 (5 * p + k)) i) := by
        intro y2 got hy eg hgr
        refine loop_up _ ?_ ?_
        · intro l4
          have aft := after (wrw (up y2 47 p (g 47 p)) (5 * p) (fun k => g 48 (5 * p + k)) 5) got (fun a j h1 h2 h3 h4 h5 => by
            by_cases a48 : a = 48
            · subst a48
              by_cases hin : 5 * p ≤ j ∧ j < 5 * p + 5
              · unfold wrw
                rw [if_pos ⟨rfl, hin⟩]
                show g 48 (5 * p + (j - 5 * p)) = _
                rw [show 5 * p + (j - 5 * p) = j by omega]
              · rw [wrw_out hin, up_ob (by decide), hy 48 j h1 h2 h3, z148 j (by omega)]
            · rw [wrw_o a48]
              by_cases a47 : a = 47
              · subst a47
                by_cases hj : j = p
                · subst hj; exact up_same
                · rw [up_ne (fun z => hj z.2), hy 47 j h1 h2 h3, z147 j hj]
              · rw [up_ob a47, hy a j h1 h2 h3, z1o a a47 a48]
                exact mx a j h1 h2 h3 h4 h5)
            (by rw [wrw_o (by decide), up_obf (by decide), ← x62, ← z1o 62 (by decide) (by decide)]; exact funext fun j => hy 62 j (by omega) (by decide) (by decide))
            (fun k hk5 => by rw [wrw_o (by decide), up_ob (by decide), hy 63 k (by omega) (by decide) (by decide), z1o 63 (by decide) (by decide)]; exact x63 k hk5) eg hgr l4
          refine v_iload hX eX8_lie_193 rfl ?_
          refine v_iconst hX eX8_lie_195 ?_
          refine v_icmp_ge hX eX8_lie_196 (tgt := 223) rfl ⟨by omega, by omega⟩ ⟨by omega, by omega⟩ (fun c196 => ?_) (fun c196 => False.elim ((by omega)))
          exact aft _
        · intro i hi ih l4
          have ei : ((5 : Int) * p + i).toNat = 5 * p + i := by omega
          have r63 : wrw (up y2 47 p (g 47 p)) (5 * p) (fun k => g 48 (5 * p + k)) i 63 i = g 48 (5 * p + i) := by
            rw [wrw_o (by decide), up_ob (by decide), hy 63 i (by omega) (by decide) (by decide), z1o 63 (by decide) (by decide)]
            exact x63 i (by omega)
          refine v_iload hX eX8_lie_193 rfl ?_
          refine v_iconst hX eX8_lie_195 ?_
          refine v_icmp_ge hX eX8_lie_196 (tgt := 223) rfl ⟨by omega, by omega⟩ ⟨by omega, by omega⟩ (fun c196 => False.elim ((by omega))) (fun c196 => ?_)
          refine v_aload_n hX eX8_lie_199 rfl ?_
          refine v_getA hX eX8_lie_200 fi_X8_20 ⟨by decide, rfl⟩ rfl ?_
          refine v_iconst hX eX8_lie_203 ?_
          refine v_iload_n hX eX8_lie_204 rfl ?_
          refine v_imul hX eX8_lie_205 ?_
          refine v_iload hX eX8_lie_206 rfl ?_
          refine v_iadd hX eX8_lie_208 ?_
          refine v_aload_n hX eX8_lie_209 rfl ?_
          refine v_getA hX eX8_lie_210 fi_X8_65 ⟨by decide, rfl⟩ rfl ?_
          refine v_iload hX eX8_lie_213 rfl ?_
          refine v_iald hX eX8_lie_215 (by first | exact ⟨by decide, rfl⟩ | exact hk | exact hk2 | exact AR_rk (by omega)) ⟨by omega, by omega⟩ ?_
          try simp only [Int.toNat_natCast, Int.toNat_zero, Int.reduceToNat]
          rw [r63]
          refine v_iast hX eX8_lie_216 (by first | exact ⟨by decide, rfl⟩ | exact hk | exact hk2 | exact AR_rk (by omega)) ⟨by omega, by omega⟩ ?_
          try simp only [Int.toNat_natCast, Int.toNat_zero, Int.reduceToNat]
          rw [ei]
          rw [wrw_s (f := fun k => g 48 (5 * p + k))]
          refine v_iinc hX eX8_lie_217 rfl rfl rfl ?_
          refine v_goto hX eX8_lie_220 (tgt := 193) rfl ?_
          exact ih _
      have tell : ∀ i : Nat, i ≤ (h 1 4).toNat → ∀ l7, VW X 137 [some (mA 44), some (mI p), some (mI (g 47 p)), some (mI (rkI h p ((bsR h).2.2.2 p))), some (mI 0), some (mI 1), some (mI i), l7] [] (wrw x1 (5 * p) f i) := by
        refine loop_up _ ?_ ?_
        · intro l7
          have w11 : wrw x1 (5 * p) f (h 1 4).toNat 44 11 = ((h 1 4).toNat : Nat) := by
            rw [wrw_o (by decide)]
            show up x 47 p _ 44 11 = _
            rw [up_ob (by decide), x11]
          refine v_iload hX eX8_lie_137 rfl ?_
          refine v_aload_n hX eX8_lie_139 rfl ?_
          refine v_getI hX eX8_lie_140 fi_X8_91 ⟨by decide, rfl⟩ ?_
          rw [w11]
          refine v_icmp_ge hX eX8_lie_143 (tgt := 170) rfl ⟨by omega, by omega⟩ ⟨by omega, by omega⟩ (fun c143 => ?_) (fun c143 => False.elim ((by omega)))
          refine v_aload_n hX eX8_lie_170 rfl ?_
          refine v_iconst hX eX8_lie_171 ?_
          show VW X 172 _ [mI 2, mA 44] z1
          refine v_frV hX eX8_lie_172 lV_X8_224 ok_MX8_all ⟨by decide, rfl⟩ rfl ⟨rfl, Nat.le_of_ble_eq_true rfl⟩ (Nat.le_of_ble_eq_true rfl) (call1) rfl ?_
          rintro rr y2 ⟨rfl, my2, ry2⟩
          have z1c : tlR (PRH h) p (plc h p) (h (23 + p) 3) (trN f (h 7) (h 1 4).toNat) = ext (eT (PRH h) p (plc h p) (h (23 + p) 3) (trN f (h 7) (h 1 4).toNat)) 1 8 (fun _ => -1) (ABV, ABV, 0, fun _ => 0) := rfl
          rw [← z1c] at ry2
          rcases ry2.2 with ⟨_, b2, _⟩ | ⟨b1, b2, u, b3, b4, b5⟩
          · omega
          have tu := b3.tr Y1.1 p (by rw [alH_ob (by decide), z1g 1 (by decide) (by decide) (by decide) (by decide) (by decide) (by decide) (by decide), g1]; exact hp)
          have m4 := Y1.1.q
          have y61 : y2 61 p = u p := b5.2.2.2.2.2.2 p hp
          have bk := back y2 (y2 61 p) (fun a j h1 h2 h3 => by rw [my2 a j (fun z => h1 ⟨z.1, z.2.1, by omega⟩) h2 h3, alH_ne (fun z => h1 ⟨z.1, by omega, by omega⟩)]) (by rw [y61, b4 p (by omega)]) (by rw [y61]; constructor <;> omega) 0 (by omega)
          rw [wrw_0] at bk
          show VW X 175 _ [] y2
          refine v_aload_n hX eX8_lie_175 rfl ?_
          refine v_getA hX eX8_lie_176 fi_X8_59 ⟨by decide, rfl⟩ rfl ?_
          refine v_iload_n hX eX8_lie_179 rfl ?_
          refine v_iald hX eX8_lie_180 (by first | exact ⟨by decide, rfl⟩ | exact hk | exact hk2 | exact AR_rk (by omega)) ⟨by omega, by omega⟩ ?_
          try simp only [Int.toNat_natCast, Int.toNat_zero, Int.reduceToNat]
          refine v_istore hX eX8_lie_181 rfl rfl ?_
          refine v_aload_n hX eX8_lie_183 rfl ?_
          refine v_getA hX eX8_lie_184 fi_X8_17 ⟨by decide, rfl⟩ rfl ?_
          refine v_iload_n hX eX8_lie_187 rfl ?_
          refine v_iload_n hX eX8_lie_188 rfl ?_
          refine v_iast hX eX8_lie_189 (by first | exact ⟨by decide, rfl⟩ | exact hk | exact hk2 | exact AR_rk (by omega)) ⟨by omega, by omega⟩ ?_
          try simp only [Int.toNat_natCast, Int.toNat_zero, Int.reduceToNat]
          refine v_iconst hX eX8_lie_190 ?_
          refine v_istore hX eX8_lie_191 rfl rfl ?_
          exact bk _
        · intro i hi ih l7
          have ei : ((5 : Int) * p + i).toNat = 5 * p + i := by omega
          have w11 : wrw x1 (5 * p) f i 44 11 = ((h 1 4).toNat : Nat) := by
            rw [wrw_o (by decide)]
            show up x 47 p _ 44 11 = _
            rw [up_ob (by decide), x11]
          have w62 : wrw x1 (5 * p) f i 62 i = f i := by
            rw [wrw_o (by decide)]
            show up x 47 p _ 62 i = _
            rw [up_ob (by decide), x62]
          refine v_iload hX eX8_lie_137 rfl ?_
          refine v_aload_n hX eX8_lie_139 rfl ?_
          refine v_getI hX eX8_lie_140 fi_X8_91 ⟨by decide, rfl⟩ ?_
          rw [w11]
          refine v_icmp_ge hX eX8_lie_143 (tgt := 170) rfl ⟨by omega, by omega⟩ ⟨by omega, by omega⟩ (fun c143 => False.elim ((by omega))) (fun c143 => ?_)
          refine v_aload_n hX eX8_lie_146 rfl ?_
          refine v_getA hX eX8_lie_147 fi_X8_20 ⟨by decide, rfl⟩ rfl ?_
          refine v_iconst hX eX8_lie_150 ?_
          refine v_iload_n hX eX8_lie_151 rfl ?_
          refine v_imul hX eX8_lie_152 ?_
          refine v_iload hX eX8_lie_153 rfl ?_
          refine v_iadd hX eX8_lie_155 ?_
          refine v_aload_n hX eX8_lie_156 rfl ?_
          refine v_getA hX eX8_lie_157 fi_X8_62 ⟨by decide, rfl⟩ rfl ?_
          refine v_iload hX eX8_lie_160 rfl ?_
          refine v_iald hX eX8_lie_162 (by first | exact ⟨by decide, rfl⟩ | exact hk | exact hk2 | exact AR_rk (by omega)) ⟨by omega, by omega⟩ ?_
          try simp only [Int.toNat_natCast, Int.toNat_zero, Int.reduceToNat]
          rw [w62]
          refine v_iast hX eX8_lie_163 (by first | exact ⟨by decide, rfl⟩ | exact hk | exact hk2 | exact AR_rk (by omega)) ⟨by omega, by omega⟩ ?_
          try simp only [Int.toNat_natCast, Int.toNat_zero, Int.reduceToNat]
          rw [ei, wrw_s]
          refine v_iinc hX eX8_lie_164 rfl rfl rfl ?_
          refine v_goto hX eX8_lie_167 (tgt := 137) rfl ?_
          exact ih _
      have t0 := tell 0 (by omega) l7
      rw [wrw_0] at t0
      refine v_iload hX eX8_lie_114 rfl ?_
      refine v_if_eq hX eX8_lie_116 (tgt := 263) rfl ⟨by omega, by omega⟩ (fun c116 => False.elim ((by omega))) (fun c116 => ?_)
      refine v_iload hX eX8_lie_119 rfl ?_
      refine v_if_ne hX eX8_lie_121 (tgt := 263) rfl ⟨by omega, by omega⟩ (fun c121 => False.elim ((by omega))) (fun c121 => ?_)
      refine v_aload_n hX eX8_lie_124 rfl ?_
      refine v_getA hX eX8_lie_125 fi_X8_17 ⟨by decide, rfl⟩ rfl ?_
      refine v_iload_n hX eX8_lie_128 rfl ?_
      refine v_aload_n hX eX8_lie_129 rfl ?_
      refine v_getI hX eX8_lie_130 fi_X8_91 ⟨by decide, rfl⟩ ?_
      rw [x11]
      refine v_iast hX eX8_lie_133 (by first | exact ⟨by decide, rfl⟩ | exact hk | exact hk2 | exact AR_rk (by omega)) ⟨by omega, by omega⟩ ?_
      try simp only [Int.toNat_natCast, Int.toNat_zero, Int.reduceToNat]
      refine v_iconst hX eX8_lie_134 ?_
      refine v_istore hX eX8_lie_135 rfl rfl ?_
      exact t0
  -- what is true is kept
  have save : ∀ (y1 : Hp), 0 < (bsR h).2.2.1 → 0 < (h 1 4).toNat → MS (alH g 2) y1 → ∀ i : Nat, i ≤ 5 → ∀ l5 l6 l7, VW X 69 [some (mA 44), some (mI p), some (mI (g 47 p)), some (mI (rkI h p ((bsR h).2.2.2 p))), some (mI i), l5, l6, l7] [] (cpF (cpF y1 63 (fun k => g 48 (5 * p + k)) i) 62 (fun k => (k : Int)) i) := by
    intro y1 hb hL my
    have yg : ∀ a j, ¬ (a = 44 ∧ 18 ≤ j ∧ j ≤ 28) → a ≠ 60 → a ≠ 61 → y1 a j = g a j := fun a j h1 h2 h3 => by rw [my a j (fun z => h1 ⟨z.1, z.2.1, by omega⟩) h2 h3, alH_ne (fun z => h1 ⟨z.1, by omega, by omega⟩)]
    refine loop_up _ ?_ ?_
    · intro l5 l6 l7
      have lp := loop hb hL 120 (idF (g 62) 5) (cpF (cpF y1 63 (fun k => g 48 (5 * p + k)) 5) 62 (fun k => (k : Int)) 5) (ENDS_congr hL 120 _ _ (fun i hi => by unfold idF; rw [if_pos hi, if_pos (by omega)]) (ends_id (L := (h 1 4).toNat) ⟨hL, by omega⟩ (g 62)))
        ⟨fun i hi => by unfold idF; rw [if_pos (by omega)]; omega, fun j hj => ⟨j, hj, by unfold idF; rw [if_pos (by omega)]⟩⟩ (fun i j hi hj e => by unfold idF at e; rw [if_pos (by omega), if_pos (by omega)] at e; omega)
        (fun a j h1 h2 h3 h4 h5 => by rw [cpF_o h4, cpF_o h5]; exact yg a j h1 h2 h3)
        (by
          funext b
          unfold idF
          show (if 62 = 62 ∧ b < 5 then ((b : Nat) : Int) else cpF y1 63 (fun k => g 48 (5 * p + k)) 5 62 b) = _
          by_cases hb5 : b < 5
          · rw [if_pos ⟨rfl, hb5⟩, if_pos hb5]
          · rw [if_neg (fun z => hb5 z.2), if_neg hb5, cpF_o (by decide)]
            exact yg 62 b (by omega) (by decide) (by decide))
        (fun k hk5 => by
          rw [cpF_o (by decide)]
          unfold cpF
          rw [if_pos ⟨rfl, hk5⟩])
        (fun r x hr => hq r x (Or.inr ⟨hb, hr⟩))
      refine v_iload hX eX8_lie_69 rfl ?_
      refine v_iconst hX eX8_lie_71 ?_
      refine v_icmp_ge hX eX8_lie_72 (tgt := 108) rfl ⟨by omega, by omega⟩ ⟨by omega, by omega⟩ (fun c72 => ?_) (fun c72 => False.elim ((by omega)))
      refine v_iconst hX eX8_lie_108 ?_
      refine v_istore hX eX8_lie_109 rfl rfl ?_
      refine v_iconst hX eX8_lie_111 ?_
      refine v_istore hX eX8_lie_112 rfl rfl ?_
      exact lp _ _
    · intro i hi ih l5 l6 l7
      have ei : ((5 : Int) * p + i).toNat = 5 * p + i := by omega
      have r48 : cpF (cpF y1 63 (fun k => g 48 (5 * p + k)) i) 62 (fun k => (k : Int)) i 48 (5 * p + i) = g 48 (5 * p + i) := by
        rw [cpF_o (by decide), cpF_o (by decide)]
        exact yg 48 _ (by omega) (by decide) (by decide)
      have sw : up (up (cpF (cpF y1 63 (fun k => g 48 (5 * p + k)) i) 62 (fun k => (k : Int)) i) 63 i (g 48 (5 * p + i))) 62 i i = cpF (cpF y1 63 (fun k => g 48 (5 * p + k)) (i + 1)) 62 (fun k => (k : Int)) (i + 1) := by
        rw [← cpF_s (f := fun k => (k : Int)), ← cpF_s (k := 63) (f := fun k => g 48 (5 * p + k))]
        congr 1
        funext a b
        by_cases h62 : a = 62
        · subst h62
          rw [up_ob (by decide)]
          unfold cpF
          by_cases hb : b < i
          · rw [if_pos ⟨rfl, hb⟩, if_pos ⟨rfl, hb⟩]
          · rw [if_neg (fun z => hb z.2), if_neg (fun z => hb z.2), if_neg (by omega), up_ob (by decide), if_neg (by omega)]
        · by_cases h63 : a = 63
          · subst h63
            rw [cpF_o (by decide)]
            by_cases hb : b = i
            · subst hb; rw [up_same, up_same]
            · rw [up_ne (fun z => hb z.2), up_ne (fun z => hb z.2), cpF_o (by decide)]
          · rw [up_ob h63, cpF_o h62, cpF_o h62, up_ob h63]
      refine v_iload hX eX8_lie_69 rfl ?_
      refine v_iconst hX eX8_lie_71 ?_
      refine v_icmp_ge hX eX8_lie_72 (tgt := 108) rfl ⟨by omega, by omega⟩ ⟨by omega, by omega⟩ (fun c72 => False.elim ((by omega))) (fun c72 => ?_)
      refine v_aload_n hX eX8_lie_75 rfl ?_
      refine v_getA hX eX8_lie_76 fi_X8_65 ⟨by decide, rfl⟩ rfl ?_
      refine v_iload hX eX8_lie_79 rfl ?_
      refine v_aload_n hX eX8_lie_81 rfl ?_
      refine v_getA hX eX8_lie_82 fi_X8_20 ⟨by decide, rfl⟩ rfl ?_
      refine v_iconst hX eX8_lie_85 ?_
      refine v_iload_n hX eX8_lie_86 rfl ?_
      refine v_imul hX eX8_lie_87 ?_
      refine v_iload hX eX8_lie_88 rfl ?_
      refine v_iadd hX eX8_lie_90 ?_
      refine v_iald hX eX8_lie_91 (by first | exact ⟨by decide, rfl⟩ | exact hk | exact hk2 | exact AR_rk (by omega)) ⟨by omega, by omega⟩ ?_
      try simp only [Int.toNat_natCast, Int.toNat_zero, Int.reduceToNat]
      rw [ei, r48]
      refine v_iast hX eX8_lie_92 (by first | exact ⟨by decide, rfl⟩ | exact hk | exact hk2 | exact AR_rk (by omega)) ⟨by omega, by omega⟩ ?_
      try simp only [Int.toNat_natCast, Int.toNat_zero, Int.reduceToNat]
      refine v_aload_n hX eX8_lie_93 rfl ?_
      refine v_getA hX eX8_lie_94 fi_X8_62 ⟨by decide, rfl⟩ rfl ?_
      refine v_iload hX eX8_lie_97 rfl ?_
      refine v_iload hX eX8_lie_99 rfl ?_
      refine v_iast hX eX8_lie_101 (by first | exact ⟨by decide, rfl⟩ | exact hk | exact hk2 | exact AR_rk (by omega)) ⟨by omega, by omega⟩ ?_
      try simp only [Int.toNat_natCast, Int.toNat_zero, Int.reduceToNat]
      rw [sw]
      refine v_iinc hX eX8_lie_102 rfl rfl rfl ?_
      refine v_goto hX eX8_lie_105 (tgt := 69) rfl ?_
      exact ih _ _ _
  show VW X 0 [some (mA 44), some (mI p), none, none, none, none, none, none] [] h0
  refine v_aload_n hX eX8_lie_0 rfl ?_
  refine v_iconst hX eX8_lie_1 ?_
  refine v_putI hX eX8_lie_2 fi_X8_80 ⟨by decide, rfl⟩ ?_
  rw [hg]
  refine v_aload_n hX eX8_lie_5 rfl ?_
  refine v_iload_n hX eX8_lie_6 rfl ?_
  refine v_fnV hX eX8_lie_7 lV_X8_100 ok_MX8_isPupil ⟨by decide, rfl⟩ rfl ⟨rfl, Nat.le_of_ble_eq_true rfl⟩ (Nat.le_of_ble_eq_true rfl) (c_X8_isPupil (by rw [en]; exact hn) ⟨by omega, by omega⟩) rfl ?_
  try simp only [Int.toNat_natCast, Int.toNat_zero, Int.reduceToNat]
  refine v_ifB_eq hX eX8_lie_10 (tgt := 30) rfl (fun c10 => False.elim ((c10 ⟨by omega, by omega⟩))) (fun c10 => ?_)
  refine v_aload_n hX eX8_lie_13 rfl ?_
  refine v_getA hX eX8_lie_14 fi_X8_13 ⟨by decide, rfl⟩ rfl ?_
  refine v_iload_n hX eX8_lie_17 rfl ?_
  refine v_zald hX eX8_lie_18 (by first | exact ⟨by decide, rfl⟩ | exact hk | exact hk2 | exact AR_rk (by omega)) ⟨by omega, by omega⟩ ?_
  try simp only [Int.toNat_natCast, Int.toNat_zero, Int.reduceToNat]
  rw [g46]
  refine v_if_eq hX eX8_lie_19 (tgt := 30) rfl ⟨by omega, by omega⟩ (fun c19 => False.elim ((by omega))) (fun c19 => ?_)
  refine v_aload_n hX eX8_lie_22 rfl ?_
  refine v_fnV hX eX8_lie_23 lV_X8_121 ok_MX8_present ⟨by decide, rfl⟩ rfl ⟨rfl, Nat.le_of_ble_eq_true rfl⟩ (Nat.le_of_ble_eq_true rfl) (c_X8_present y0.1 y0.2.1) rfl ?_
  try simp only [Int.toNat_natCast, Int.toNat_zero, Int.reduceToNat]
  rw [pc]
  refine v_iconst hX eX8_lie_26 ?_
  refine v_icmp_le hX eX8_lie_27 (tgt := 32) rfl ⟨by omega, by omega⟩ ⟨by omega, by omega⟩ (fun c27 => ?_) (fun c27 => False.elim ((by omega)))
  refine v_aload_n hX eX8_lie_32 rfl ?_
  refine v_iconst hX eX8_lie_33 ?_
  refine v_frV hX eX8_lie_34 lV_X8_224 ok_MX8_all ⟨by decide, rfl⟩ rfl ⟨rfl, Nat.le_of_ble_eq_true rfl⟩ (Nat.le_of_ble_eq_true rfl) (call) rfl ?_
  rintro rr y1 ⟨rfl, my, ry⟩
  have yg : ∀ a j, ¬ (a = 44 ∧ 18 ≤ j ∧ j ≤ 28) → a ≠ 60 → a ≠ 61 → y1 a j = g a j := fun a j h1 h2 h3 => by rw [my a j (fun z => h1 ⟨z.1, z.2.1, by omega⟩) h2 h3, alH_ne (fun z => h1 ⟨z.1, by omega, by omega⟩)]
  have bc : ext (PRH h) 1 8 (PRH h 15) (ABV, ABV, 0, PRH h 16) = bsR h := rfl
  rw [bc] at ry
  show VW X 37 _ [] y1
  rcases ry.2 with ⟨b1, b2, _⟩ | ⟨b1, b2, u, b3, b4, b5⟩
  · have f2 := hq (some (mI (-2))) y1 (Or.inl ⟨by omega, rfl, fun a j h1 h2 h3 _ _ => yg a j h1 h2 h3⟩)
    refine v_aload_n hX eX8_lie_37 rfl ?_
    refine v_getI hX eX8_lie_38 fi_X8_200 ⟨by decide, rfl⟩ ?_
    rw [b1]
    refine v_if_ne hX eX8_lie_41 (tgt := 47) rfl ⟨by omega, by omega⟩ (fun c => absurd rfl c) (fun _ => ?_)
    refine v_bipush hX eX8_lie_44 (by decide) ?_
    exact v_ireturn hX hR eX8_lie_46 rfl f2
  have tu := b3.tr Yg.1 p (by rw [alH_ob (by decide), g1]; exact hp)
  have pu := b3.1 p (by rw [alH_ob (by decide), g1]; exact hp) (by unfold prF; rw [alH_ob (by omega), hk (23 + p) (by omega), hz]; rfl)
  have hL : 0 < (h 1 4).toNat := by
    have := pu.2.1
    rw [alH_ob (by decide), g1] at this
    omega
  have m4 := Yg.1.q
  have y61 : y1 61 p = u p := b5.2.2.2.2.2.2 p hp
  have y47 : y1 47 p = g 47 p := yg 47 p (by omega) (by decide) (by decide)
  have rky : RK y1 p (rkI h p) := rkg.congr y47 (fun i _ => yg 48 _ (by omega) (by decide) (by decide))
  have eb : (bsR h).2.2.2 p = u p := b4 p (by omega)
  have sv := save y1 b2 hL my 0 (by omega)
  rw [cpF_0, cpF_0] at sv
  refine v_aload_n hX eX8_lie_37 rfl ?_
  refine v_getI hX eX8_lie_38 fi_X8_200 ⟨by decide, rfl⟩ ?_
  refine v_if_ne hX eX8_lie_41 (tgt := 47) rfl ⟨by omega, by omega⟩ (fun c41 => ?_) (fun c41 => False.elim ((by omega)))
  refine v_aload_n hX eX8_lie_47 rfl ?_
  refine v_getA hX eX8_lie_48 fi_X8_17 ⟨by decide, rfl⟩ rfl ?_
  refine v_iload_n hX eX8_lie_51 rfl ?_
  refine v_iald hX eX8_lie_52 (by first | exact ⟨by decide, rfl⟩ | exact hk | exact hk2 | exact AR_rk (by omega)) ⟨by omega, by omega⟩ ?_
  try simp only [Int.toNat_natCast, Int.toNat_zero, Int.reduceToNat]
  rw [y47]
  refine v_istore_n hX eX8_lie_53 rfl rfl ?_
  refine v_aload_n hX eX8_lie_54 rfl ?_
  refine v_iload_n hX eX8_lie_55 rfl ?_
  refine v_aload_n hX eX8_lie_56 rfl ?_
  refine v_getA hX eX8_lie_57 fi_X8_59 ⟨by decide, rfl⟩ rfl ?_
  refine v_iload_n hX eX8_lie_60 rfl ?_
  refine v_iald hX eX8_lie_61 (by first | exact ⟨by decide, rfl⟩ | exact hk | exact hk2 | exact AR_rk (by omega)) ⟨by omega, by omega⟩ ?_
  try simp only [Int.toNat_natCast, Int.toNat_zero, Int.reduceToNat]
  rw [y61]
  refine v_fnV hX eX8_lie_62 lV_X8_136 ok_MX8_rankOf ⟨by decide, rfl⟩ rfl ⟨rfl, Nat.le_of_ble_eq_true rfl⟩ (Nat.le_of_ble_eq_true rfl) (c_X8_rankOf (by omega) rky ⟨by omega, by omega⟩) rfl ?_
  try simp only [Int.toNat_natCast, Int.toNat_zero, Int.reduceToNat]
  rw [← eb]
  refine v_istore_n hX eX8_lie_65 rfl rfl ?_
  refine v_iconst hX eX8_lie_66 ?_
  refine v_istore hX eX8_lie_67 rfl rfl ?_
  exact sv _ _ _
set_option maxHeartbeats 2000000 in
set_option maxRecDepth 20000 in
theorem c_X8_lie_N {d : Nat} {h0 g : Hp} {p : Int} (hg : up h0 44 0 0 = g) (hI : RI g) (rl : RLr g) (hr : rng p) (bad : ¬ (inN g p ∧ prF g p.toNat = true ∧ cntF (prF g) (g 1 3).toNat ≤ 5)) : Fn (d + 2) MX8_lie [mA 44, mI p] h0 (some (mI (-1))) g := by
  intro Q hq X hX hR
  have hn := hI.n
  have en := rl.n
  have hcl := cntF_le (prF g) (g 1 3).toNat
  show VW X 0 [some (mA 44), some (mI p), none, none, none, none, none, none] [] h0
  by_cases hp : inN g p
  · have hp2 := hp.2
    have hp1 := hp.1
    have g46 := (rl.pu (p := p.toNat) (by omega)).2
    have hz := (hI.pu (p := p.toNat) (by omega)).2.2.2.2.2.1
    refine v_aload_n hX eX8_lie_0 rfl ?_
    refine v_iconst hX eX8_lie_1 ?_
    refine v_putI hX eX8_lie_2 fi_X8_80 ⟨by decide, rfl⟩ ?_
    rw [hg]
    refine v_aload_n hX eX8_lie_5 rfl ?_
    refine v_iload_n hX eX8_lie_6 rfl ?_
    refine v_fnV hX eX8_lie_7 lV_X8_100 ok_MX8_isPupil ⟨by decide, rfl⟩ rfl ⟨rfl, Nat.le_of_ble_eq_true rfl⟩ (Nat.le_of_ble_eq_true rfl) (c_X8_isPupil (by rw [en]; exact hn) hr) rfl ?_
    try simp only [Int.toNat_natCast, Int.toNat_zero, Int.reduceToNat]
    refine v_ifB_eq hX eX8_lie_10 (tgt := 30) rfl (fun c10 => ?_) (fun c10 => ?_)
    · refine v_iconst hX eX8_lie_30 ?_
      exact v_ireturn hX hR eX8_lie_31 rfl (hq)
    · refine v_aload_n hX eX8_lie_13 rfl ?_
      refine v_getA hX eX8_lie_14 fi_X8_13 ⟨by decide, rfl⟩ rfl ?_
      refine v_iload_n hX eX8_lie_17 rfl ?_
      refine v_zald hX eX8_lie_18 (by first | exact ⟨by decide, rfl⟩ | exact hk | exact hk2 | exact AR_rk (by omega)) ⟨by omega, by omega⟩ ?_
      try simp only [Int.toNat_natCast, Int.toNat_zero, Int.reduceToNat]
      rw [g46]
      refine v_if_eq hX eX8_lie_19 (tgt := 30) rfl ⟨by omega, by omega⟩ (fun c19 => ?_) (fun c19 => ?_)
      · refine v_iconst hX eX8_lie_30 ?_
        exact v_ireturn hX hR eX8_lie_31 rfl (hq)
      · refine v_aload_n hX eX8_lie_22 rfl ?_
        refine v_fnV hX eX8_lie_23 lV_X8_121 ok_MX8_present ⟨by decide, rfl⟩ rfl ⟨rfl, Nat.le_of_ble_eq_true rfl⟩ (Nat.le_of_ble_eq_true rfl) (c_X8_present hI rl) rfl ?_
        try simp only [Int.toNat_natCast, Int.toNat_zero, Int.reduceToNat]
        refine v_iconst hX eX8_lie_26 ?_
        refine v_icmp_le hX eX8_lie_27 (tgt := 32) rfl ⟨by omega, by omega⟩ ⟨by omega, by omega⟩ (fun c27 => False.elim ((bad ⟨hp, by simp [prF]; omega, by omega⟩))) (fun c27 => ?_)
        refine v_iconst hX eX8_lie_30 ?_
        exact v_ireturn hX hR eX8_lie_31 rfl (hq)
  · refine v_aload_n hX eX8_lie_0 rfl ?_
    refine v_iconst hX eX8_lie_1 ?_
    refine v_putI hX eX8_lie_2 fi_X8_80 ⟨by decide, rfl⟩ ?_
    rw [hg]
    refine v_aload_n hX eX8_lie_5 rfl ?_
    refine v_iload_n hX eX8_lie_6 rfl ?_
    refine v_fnV hX eX8_lie_7 lV_X8_100 ok_MX8_isPupil ⟨by decide, rfl⟩ rfl ⟨rfl, Nat.le_of_ble_eq_true rfl⟩ (Nat.le_of_ble_eq_true rfl) (c_X8_isPupil (by rw [en]; exact hn) hr) rfl ?_
    try simp only [Int.toNat_natCast, Int.toNat_zero, Int.reduceToNat]
    refine v_ifB_eq hX eX8_lie_10 (tgt := 30) rfl (fun c10 => ?_) (fun c10 => False.elim ((hp (by rw [en] at c10; exact c10))))
    refine v_iconst hX eX8_lie_30 ?_
    exact v_ireturn hX hR eX8_lie_31 rfl (hq)
