/-! findPayingTale, lie -/
def TF (e : Hp) (p : Nat) (g : Hp) : Prop :=
  (∀ a, a ≠ 2 → a ≠ 6 → a ≠ 7 → a ≠ 14 → a ≠ 15 → a ≠ 16 → a ≠ 19 → a ≠ 20 → g a = e a) ∧ (∀ j, j ≠ 8 → j ≠ 9 → j ≠ 10 → j ≠ 11 → g 2 j = e 2 j) ∧
  (∀ b, ¬ (6 * p ≤ b ∧ b < 6 * p + 6) → g 19 b = e 19 b ∧ g 20 b = e 20 b) ∧ SCI g ∧ (∀ j, j < 8 → isP e j = false → g 15 j = -1) ∧ FOK (g 16) ∧ (∀ j, j < 5 → 0 ≤ g 7 j ∧ g 7 j ≤ 6)
theorem setR_self {h : Hp} {k : Nat} : setR h k (h k) = h := by
  funext a
  by_cases ha : a = k
  · subst ha; rw [setR_same]
  · rw [setR_ne ha]
theorem setR_setR {h : Hp} {k : Nat} {f f2 : Nat → Int} : setR (setR h k f) k f2 = setR h k f2 := by
  funext a
  by_cases ha : a = k
  · subst ha; rw [setR_same, setR_same]
  · rw [setR_ne ha, setR_ne ha, setR_ne ha]
theorem TF_ENV {e g : Hp} {p : Nat} (hE : ENV e) (t : TF e p g) : ENV g := by
  obtain ⟨t1, t2, t3, t4, t5, t6, t7⟩ := t
  obtain ⟨e1, e2, e3, e4, e5, e6⟩ := hE
  have a13 : g 13 = e 13 := t1 13 (by decide) (by decide) (by decide) (by decide) (by decide) (by decide) (by decide) (by decide)
  have a17 : g 17 = e 17 := t1 17 (by decide) (by decide) (by decide) (by decide) (by decide) (by decide) (by decide) (by decide)
  have a18 : g 18 = e 18 := t1 18 (by decide) (by decide) (by decide) (by decide) (by decide) (by decide) (by decide) (by decide)
  exact ⟨by rw [t2 6 (by decide) (by decide) (by decide) (by decide)]; exact e1, by rw [t2 7 (by decide) (by decide) (by decide) (by decide)]; exact e2, t4, by rw [a13]; exact e4, by rw [a17, a18]; exact e5, by rw [a17, a18]; exact e6⟩
theorem TF_RE {h e g : Hp} {p : Nat} (r : RE h e) (t : TF e p g) : RE h g := by
  obtain ⟨r1, r2, r3, r4, r5⟩ := r
  exact ⟨by rw [t.1 1 (by decide) (by decide) (by decide) (by decide) (by decide) (by decide) (by decide) (by decide), r1], by rw [t.1 10 (by decide) (by decide) (by decide) (by decide) (by decide) (by decide) (by decide) (by decide), r2],
    fun q => by rw [t.1 (23 + q) (by omega) (by omega) (by omega) (by omega) (by omega) (by omega) (by omega) (by omega), r3], fun q => by rw [t.1 (31 + q) (by omega) (by omega) (by omega) (by omega) (by omega) (by omega) (by omega) (by omega), r4], fun q => by rw [t.1 (39 + q) (by omega) (by omega) (by omega) (by omega) (by omega) (by omega) (by omega) (by omega), r5]⟩
theorem FPn_SCI {g : Hp} {p : Nat} {pl s : Int} {k : Nat} (h : SCI g) (hs : 0 ≤ s ∧ s ≤ 300) (hr : ∀ j, j < 5 → 0 ≤ g k j ∧ g k j ≤ 6) : SCI (FPn g p pl s k 6) := by
  intro i hi
  have h0 := h i hi
  have hv : ∀ c, 0 ≤ rkc g k c ∧ rkc g k c ≤ 6 := fun c => by
    unfold rkc
    split
    · rename_i z; exact hr c z
    · decide
  have e19 : FPn g p pl s k 6 19 i = if 6 * p ≤ i ∧ i < 6 * p + 6 then cstV (rkc g k (i - 6 * p)) s else g 19 i := by
    unfold FPn
    by_cases z : 6 * p ≤ i ∧ i < 6 * p + 6
    · rw [if_pos ⟨rfl, z⟩, if_pos z]
    · rw [if_neg (fun y => z y.2), if_neg (by omega), if_neg z]
  have e20 : FPn g p pl s k 6 20 i = if 6 * p ≤ i ∧ i < 6 * p + 6 then digV (rkc g k (i - 6 * p)) ((i - 6 * p : Nat) : Int) pl else g 20 i := by
    unfold FPn
    by_cases z : 6 * p ≤ i ∧ i < 6 * p + 6
    · rw [if_neg (by omega), if_pos ⟨rfl, z⟩, if_pos z]
    · rw [if_neg (by omega), if_neg (fun y => z y.2), if_neg z]
  rw [e19, e20]
  split
  · rename_i z
    have c := cstV_rng (hv (i - 6 * p)) hs
    have d := digV_rng (pl := pl) (hv (i - 6 * p)) (c := ((i - 6 * p : Nat) : Int)) (by omega)
    omega
  · exact h0
/-- found values are in range, whatever stands in trial for those who are HERE -/
theorem ext_fok_abs {e : Hp} {lw : Int} {t : Nat → Int} {s : SGT} (hQ : (e 2 7).toNat ≤ 5) (ht : ∀ j, j < 8 → isP e j = false → t j = -1) (hs : FOK s.2.2.2) : FOK (ext e lw 8 t s).2.2.2 := by
  rw [ext_congr 8 t (fun _ => -1) s (Nat.le_refl 8) (fun j hj hj2 => by
    rcases hj2 with hj2 | hj2
    · omega
    · exact ht j hj hj2)]
  exact ext_fok hQ 8 _ _ (fun p _ => by decide) hs
def payR (e : Hp) (p : Nat) (pl s honest : Int) (L : Nat) (tr0 : Nat → Int) (f0 : Nat → Int) (k : Nat) (r : Option MV) (g : Hp) : Prop :=
  (∃ f g3, tlC (payC e p pl s honest L tr0) L k f0 = some f ∧ PF f L ∧ r = some (mI 1) ∧ TF e p g3 ∧ g3 6 = f ∧ g = up (cpyH g3 6 5 L) 0 7 L) ∨ (tlC (payC e p pl s honest L tr0) L k f0 = none ∧ r = some (mI 0) ∧ TF e p g)
set_option maxHeartbeats 2000000 in
set_option maxRecDepth 20000 in
theorem c_X7_findPayingTale {d : Nat} {h e g0 : Hp} {p : Nat} {honest : Int} (hI : RI h) (re : RE h e) (hE : ENV e) (t0 : TF e p g0) (hp : p < (h 1 3).toNat) (hpl : 0 ≤ plc h p ∧ plc h p ≤ 7) (hL : 0 < h 1 4) (hh : rng honest) :
    Fr (d + 13) MX7_findPayingTale [mA 0, mI p, mA (23 + p), mI honest] g0 (payR e p (plc h p) (h (23 + p) 3) honest (h 1 4).toNat (g0 7) (idF (g0 6) (h 1 4).toNat) 120) := by
  intro Q hq X hX hR
  have hn := hI.n
  have hm := hI.q
  have hp8 : p < 8 := by omega
  have hsc := (hI.pu hp8).2.2.1
  have Le : (((h 1 4).toNat : Nat) : Int) = h 1 4 := by omega
  generalize hLL : (h 1 4).toNat = L at *
  have L5 : 0 < L ∧ L ≤ 5 := by omega
  have loop : ∀ (k : Nat) (i : Int) (f tr : Nat → Int) (g : Hp), 0 ≤ i → i + k = 120 → PF f L → TF e p g → g 6 = f → g 7 = tr → (∀ j, L ≤ j → tr j = g0 7 j) → (∀ r g, payR e p (plc h p) (h (23 + p) 3) honest L (g0 7) f k r g → Q r g) → VW X 37 [some (mA 0), some (mI p), some (mA (23 + p)), some (mI honest), some (mI L), some (mI i)] [] g := by
    intro k
    induction k with
    | zero =>
      intro i f tr g h0 hi hf tf e6 e7 htr hq
      refine v_iload hX eX7_findPayingTale_37 rfl ?_
      refine v_bipush hX eX7_findPayingTale_39 (by decide) ?_
      refine v_icmp_ge hX eX7_findPayingTale_41 (tgt := 143) rfl ⟨by omega, by omega⟩ ⟨by omega, by omega⟩ (fun c41 => ?_) (fun c41 => False.elim ((by omega)))
      refine v_iconst hX eX7_findPayingTale_143 ?_
      exact v_zreturn hX hR eX7_findPayingTale_144 rfl (by omega) (hq _ _ (Or.inr ⟨rfl, rfl, tf⟩))
    | succ k ih =>
      intro i f tr g h0 hi hf tf e6 e7 htr hq
      subst e6
      have trk : ∀ j, j < 5 → 0 ≤ trN (g 6) tr L j ∧ trN (g 6) tr L j ≤ 6 := trN_rng (by rw [← e7]; exact tf.2.2.2.2.2.2) L L5.2
      -- the heap with the told ranks
      let g1 : Hp := setR g 7 (trN (g 6) tr L)
      have g1n : ∀ a, a ≠ 7 → g1 a = g a := fun a ha => setR_ne ha
      have tf1 : TF e p g1 := by
        obtain ⟨t1, t2, t3, t4, t5, t6, t7⟩ := tf
        refine ⟨fun a a1 a2 a3 a4 a5 a6 a7 a8 => by rw [g1n a a3]; exact t1 a a1 a2 a3 a4 a5 a6 a7 a8, fun j j1 j2 j3 j4 => by rw [g1n 2 (by decide)]; exact t2 j j1 j2 j3 j4, fun b hb => by rw [g1n 19 (by decide), g1n 20 (by decide)]; exact t3 b hb, fun i hi => by rw [g1n 19 (by decide), g1n 20 (by decide)]; exact t4 i hi, fun j hj hj2 => by rw [g1n 15 (by decide)]; exact t5 j hj hj2, by rw [g1n 16 (by decide)]; exact t6, fun j hj => by rw [show g1 7 = trN (g 6) tr L from setR_same]; exact trk j hj⟩
      have r1 := TF_RE re tf1
      have I1 := r1.ri hI
      have e17 : g1 7 = trN (g 6) tr L := setR_same
      let g2 : Hp := FPn g1 p (plc h p) (h (23 + p) 3) 7 6
      have g2n : ∀ a, a ≠ 19 → a ≠ 20 → g2 a = g1 a := fun a h1 h2 => FPn_ne h1 h2
      have tf2 : TF e p g2 := by
        obtain ⟨t1, t2, t3, t4, t5, t6, t7⟩ := tf1
        refine ⟨fun a a1 a2 a3 a4 a5 a6 a7 a8 => by rw [g2n a a7 a8]; exact t1 a a1 a2 a3 a4 a5 a6 a7 a8, fun j j1 j2 j3 j4 => by rw [g2n 2 (by decide) (by decide)]; exact t2 j j1 j2 j3 j4, fun b hb => ?_, FPn_SCI t4 hsc t7, fun j hj hj2 => by rw [g2n 15 (by decide) (by decide)]; exact t5 j hj hj2, by rw [g2n 16 (by decide) (by decide)]; exact t6, fun j hj => by rw [g2n 7 (by decide) (by decide)]; exact t7 j hj⟩
        have := t3 b hb
        show FPn g1 p (plc h p) (h (23 + p) 3) 7 6 19 b = _ ∧ FPn g1 p (plc h p) (h (23 + p) 3) 7 6 20 b = _
        unfold FPn
        rw [if_neg (by omega), if_neg (by omega), if_neg (by omega), if_neg (by omega)]
        exact this
      have hE2 := TF_ENV hE tf2
      have rk7 : ∀ c, rkc g1 7 c = rk5 (trN (g 6) (g0 7) L) c := fun c => by
        unfold rkc rk5
        split
        · rw [e17]
          by_cases hc : c < L
          · exact trN_hit L (hf.2 c hc)
          · rw [trN_miss L (fun i hi e => by have := hf.1 i hi; omega), trN_miss L (fun i hi e => by have := hf.1 i hi; omega), htr c (by omega)]
        · rfl
      have ev : EV7 (eT e p (plc h p) (h (23 + p) 3) (trN (g 6) (g0 7) L)) g2 := by
        obtain ⟨t1, t2, t3, t4, t5, t6, t7⟩ := tf2
        refine ⟨by rw [t2 6 (by decide) (by decide) (by decide) (by decide)]; unfold eT; rw [if_neg (by omega), if_neg (by omega)], by rw [t2 7 (by decide) (by decide) (by decide) (by decide)]; unfold eT; rw [if_neg (by omega), if_neg (by omega)], ?_, ?_, ?_, ?_⟩
        · rw [t1 13 (by decide) (by decide) (by decide) (by decide) (by decide) (by decide) (by decide) (by decide)]
          funext b
          unfold eT
          rw [if_neg (by omega), if_neg (by omega)]
        · rw [t1 17 (by decide) (by decide) (by decide) (by decide) (by decide) (by decide) (by decide) (by decide)]
          funext b
          unfold eT
          rw [if_neg (by omega), if_neg (by omega)]
        · funext b
          by_cases z : 6 * p ≤ b ∧ b < 6 * p + 6
          · show FPn g1 p (plc h p) (h (23 + p) 3) 7 6 19 b = _
            unfold FPn eT
            rw [if_pos ⟨rfl, z⟩, if_pos ⟨rfl, z⟩, rk7]
          · rw [(t3 b z).1]
            unfold eT
            rw [if_neg (fun y => z y.2), if_neg (by omega)]
        · funext b
          by_cases z : 6 * p ≤ b ∧ b < 6 * p + 6
          · show FPn g1 p (plc h p) (h (23 + p) 3) 7 6 20 b = _
            unfold FPn eT
            rw [if_neg (by omega), if_pos ⟨rfl, z⟩, if_neg (by omega), if_pos ⟨rfl, z⟩, rk7]
          · rw [(t3 b z).2]
            unfold eT
            rw [if_neg (by omega), if_neg (fun y => z y.2)]
      have isp : isP (eT e p (plc h p) (h (23 + p) 3) (trN (g 6) (g0 7) L)) = isP e := by
        funext j
        unfold isP eT
        rw [if_neg (by omega), if_neg (by omega)]
      have fs : FS (ext g2 1 8 (g2 15) (ABV, ABV, 0, g2 16)) (tlR e p (plc h p) (h (23 + p) 3) (trN (g 6) (g0 7) L)) := by
        rw [ext_env ev, ext_congr 8 (g2 15) (fun _ => -1) _ (Nat.le_refl 8) (fun j hj hj2 => by
          rcases hj2 with hj2 | hj2
          · omega
          · rw [isp] at hj2
            exact tf2.2.2.2.2.1 j hj hj2)]
        exact ext_FS 8 _ _ _ ⟨rfl, rfl, rfl, Int.le_refl 0, fun z => absurd z (Int.lt_irrefl 0)⟩
      obtain ⟨-, -, f3, -, f5⟩ := fs
      have r31 : ∀ g', TF e p g' → rkI g' p = rkI e p := fun g' t => by
        funext q
        unfold rkI
        rw [t.1 (31 + p) (by omega) (by omega) (by omega) (by omega) (by omega) (by omega) (by omega) (by omega)]
      -- behind the search
      have tf3 : ∀ g3, BG g2 g3 → (∀ j, isP g2 j = false → g3 15 j = g2 15 j) → SG g3 = ext g2 1 8 (g2 15) (ABV, ABV, 0, g2 16) → FOK (g3 16) → TF e p g3 := by
        intro g3 m1 m2 m3 fk
        obtain ⟨t1, t2, t3, t4, t5, t6, t7⟩ := tf2
        have ip : isP g2 = isP e := by rw [isP_env ev, isp]
        refine ⟨fun a a1 a2 a3 a4 a5 a6 a7 a8 => by rw [m1.1 a a1 a4 a5 a6]; exact t1 a a1 a2 a3 a4 a5 a6 a7 a8, fun j j1 j2 j3 j4 => by rw [m1.2 j j1 j2 j3 j4]; exact t2 j j1 j2 j3 j4, fun b hb => by rw [BG_ne m1 (by decide) (by decide) (by decide) (by decide), BG_ne m1 (by decide) (by decide) (by decide) (by decide)]; exact t3 b hb, fun i hi => by rw [BG_ne m1 (by decide) (by decide) (by decide) (by decide), BG_ne m1 (by decide) (by decide) (by decide) (by decide)]; exact t4 i hi, fun j hj hj2 => by rw [m2 j (by rw [ip]; exact hj2)]; exact t5 j hj hj2, fk, fun j hj => by rw [BG_ne m1 (by decide) (by decide) (by decide) (by decide)]; exact t7 j hj⟩
      have next : ∀ g3, TF e p g3 → g3 6 = g 6 → g3 7 = g2 7 → ¬ payC e p (plc h p) (h (23 + p) 3) honest L (g0 7) (g 6) → VW X 123 [some (mA 0), some (mI p), some (mA (23 + p)), some (mI honest), some (mI L), some (mI i)] [] g3 := by
        intro g3 t g36 g37 hno
        have e37 : g3 7 = trN (g 6) tr L := by rw [g37, g2n 7 (by decide) (by decide), e17]
        have tcall := c_X7_turnToNext (d := d + 11) (h := g3) (L := L) (f := g 6) L5 hf
        rw [show setR g3 6 (g 6) = g3 from by rw [← g36]; exact setR_self] at tcall
        by_cases hneg : tnF (g 6) (L - 1) < 0
        · rw [if_pos hneg, show setR g3 6 (g 6) = g3 from by rw [← g36]; exact setR_self] at tcall
          have hq2 := hq (some (mI 0)) g3 (Or.inr ⟨by rw [tlC, if_neg (fun z => hno (pb_iff.mp z)), if_pos hneg], rfl, t⟩)
          refine v_aload_n hX eX7_findPayingTale_123 rfl ?_
          refine v_getA hX eX7_findPayingTale_124 fi_X7_37 ⟨by decide, rfl⟩ rfl ?_
          refine v_iload hX eX7_findPayingTale_127 rfl ?_
          refine v_fnS hX eX7_findPayingTale_129 lS_X7_240 ok_MX7_turnToNext ⟨rfl, Nat.le_of_ble_eq_true rfl⟩ (Nat.le_of_ble_eq_true rfl) (tcall) rfl ?_
          try simp only [Int.toNat_natCast, Int.toNat_zero, Int.reduceToNat]
          refine v_ifB_ne hX eX7_findPayingTale_132 (tgt := 137) rfl (fun c132 => False.elim ((c132 hneg))) (fun c132 => ?_)
          refine v_iconst hX eX7_findPayingTale_135 ?_
          exact v_zreturn hX hR eX7_findPayingTale_136 rfl (by omega) (hq2)
        · rw [if_neg hneg] at tcall
          have t' : TF e p (setR g3 6 (nxA L (g 6))) := by
            obtain ⟨t1, t2, t3, t4, t5, t6, t7⟩ := t
            exact ⟨fun a a1 a2 a3 a4 a5 a6 a7 a8 => by rw [setR_ne a2]; exact t1 a a1 a2 a3 a4 a5 a6 a7 a8, fun j j1 j2 j3 j4 => by rw [setR_ne (by decide)]; exact t2 j j1 j2 j3 j4, fun b hb => by rw [setR_ne (by decide), setR_ne (by decide)]; exact t3 b hb, fun i hi => by rw [setR_ne (by decide), setR_ne (by decide)]; exact t4 i hi, fun j hj hj2 => by rw [setR_ne (by decide)]; exact t5 j hj hj2, by rw [setR_ne (by decide)]; exact t6, fun j hj => by rw [setR_ne (by decide)]; exact t7 j hj⟩
          refine v_aload_n hX eX7_findPayingTale_123 rfl ?_
          refine v_getA hX eX7_findPayingTale_124 fi_X7_37 ⟨by decide, rfl⟩ rfl ?_
          refine v_iload hX eX7_findPayingTale_127 rfl ?_
          refine v_fnS hX eX7_findPayingTale_129 lS_X7_240 ok_MX7_turnToNext ⟨rfl, Nat.le_of_ble_eq_true rfl⟩ (Nat.le_of_ble_eq_true rfl) (tcall) rfl ?_
          try simp only [Int.toNat_natCast, Int.toNat_zero, Int.reduceToNat]
          refine v_ifB_ne hX eX7_findPayingTale_132 (tgt := 137) rfl (fun c132 => ?_) (fun c132 => False.elim ((c132 hneg)))
          refine v_iinc hX eX7_findPayingTale_137 rfl rfl rfl ?_
          refine v_goto hX eX7_findPayingTale_140 (tgt := 37) rfl ?_
          exact ih (i + 1) (nxA L (g 6)) (trN (g 6) tr L) _ (by omega) (by omega) (PF_nx hf L5.1 hneg) t' setR_same (by rw [setR_ne (by decide), e37]) (fun j hj => by rw [trN_miss L (fun i hi e => by have := hf.1 i hi; omega)]; exact htr j hj) (fun r g' hp => hq r g' (by
            have et : tlC (payC e p (plc h p) (h (23 + p) 3) honest L (g0 7)) L (k + 1) (g 6) = tlC (payC e p (plc h p) (h (23 + p) 3) honest L (g0 7)) L k (nxA L (g 6)) := by rw [tlC, if_neg (fun z => hno (pb_iff.mp z)), if_neg hneg]
            unfold payR at hp ⊢
            rw [et]
            exact hp))
      have hrt := c_X7_rankByTale (d := d + 11 + 1) (h := g) (L := L) (tr := tr) L5.2 hf
      rw [show setR g 7 tr = g from by rw [← e7]; exact setR_self] at hrt
      have pl1 : findP (g1 10) p (g1 1 3).toNat 0 = plc h p := plc_RE r1 p
      have s1 : g1 (23 + p) 3 = h (23 + p) 3 := by rw [r1.2.2.1]
      refine v_iload hX eX7_findPayingTale_37 rfl ?_
      refine v_bipush hX eX7_findPayingTale_39 (by decide) ?_
      refine v_icmp_ge hX eX7_findPayingTale_41 (tgt := 143) rfl ⟨by omega, by omega⟩ ⟨by omega, by omega⟩ (fun c41 => False.elim ((by omega))) (fun c41 => ?_)
      refine v_aload_n hX eX7_findPayingTale_44 rfl ?_
      refine v_iload hX eX7_findPayingTale_45 rfl ?_
      refine v_fnV0 hX eX7_findPayingTale_47 lV_X7_227 ok_MX7_rankByTale ⟨by decide, rfl⟩ rfl ⟨rfl, Nat.le_of_ble_eq_true rfl⟩ (Nat.le_of_ble_eq_true rfl) (hrt) rfl ?_
      try simp only [Int.toNat_natCast, Int.toNat_zero, Int.reduceToNat]
      show VW X 50 _ [] g1
      refine v_aload_n hX eX7_findPayingTale_50 rfl ?_
      refine v_getA hX eX7_findPayingTale_51 fi_X7_19 ⟨by decide, rfl⟩ rfl ?_
      refine v_iload_n hX eX7_findPayingTale_54 rfl ?_
      refine v_aload_n hX eX7_findPayingTale_55 rfl ?_
      refine v_getA hX eX7_findPayingTale_56 fi_X7_10 ⟨by decide, rfl⟩ rfl ?_
      refine v_iload_n hX eX7_findPayingTale_59 rfl ?_
      refine v_fnV hX eX7_findPayingTale_60 lV_X7_137 ok_MX4_placeOf ⟨by decide, rfl⟩ rfl ⟨rfl, Nat.le_of_ble_eq_true rfl⟩ (Nat.le_of_ble_eq_true rfl) (c_X4_placeOf I1 ⟨by omega, by omega⟩) rfl ?_
      try simp only [Int.toNat_natCast, Int.toNat_zero, Int.reduceToNat]
      rw [pl1]
      refine v_aload_n hX eX7_findPayingTale_63 rfl ?_
      refine v_getI hX eX7_findPayingTale_64 fi_X7_131 (OB_pu (by omega)) ?_
      rw [s1]
      refine v_aload_n hX eX7_findPayingTale_67 rfl ?_
      refine v_getA hX eX7_findPayingTale_68 fi_X7_40 ⟨by decide, rfl⟩ rfl ?_
      refine v_fnV0 hX eX7_findPayingTale_71 lV_X7_230 ok_MX6_tellRanks ⟨by decide, rfl⟩ rfl ⟨rfl, Nat.le_of_ble_eq_true rfl⟩ (Nat.le_of_ble_eq_true rfl) (c_X6_tellRanks hp8 hpl hsc ⟨by decide, rfl⟩ (by decide) tf1.2.2.2.2.2.2) rfl ?_
      try simp only [Int.toNat_natCast, Int.toNat_zero, Int.reduceToNat]
      show VW X 74 _ [] g2
      refine v_aload_n hX eX7_findPayingTale_74 rfl ?_
      refine v_getA hX eX7_findPayingTale_75 fi_X7_19 ⟨by decide, rfl⟩ rfl ?_
      refine v_frV hX eX7_findPayingTale_78 lV_X7_148 ok_MX6_findBest ⟨by decide, rfl⟩ rfl ⟨rfl, Nat.le_of_ble_eq_true rfl⟩ (Nat.le_of_ble_eq_true rfl) (c_X6_findBest hE2) rfl ?_
      rintro r g3 ⟨rfl, m1, m2, m3⟩
      have fk3 : FOK (g3 16) := by
        rw [show g3 16 = (SG g3).2.2.2 from rfl, m3]
        refine ext_fok_abs (by have := hE2.2.1; omega) (fun j hj hj2 => ?_) tf2.2.2.2.2.2.1
        rw [isP_env ev, isp] at hj2
        exact tf2.2.2.2.2.1 j hj hj2
      have t3 := tf3 g3 m1 m2 m3 fk3
      have g36 : g3 6 = g 6 := by rw [BG_ne m1 (by decide) (by decide) (by decide) (by decide), g2n 6 (by decide) (by decide), g1n 6 (by decide)]
      have g37 : g3 7 = g2 7 := BG_ne m1 (by decide) (by decide) (by decide) (by decide)
      have fd3 : rng (g3 16 p) := by have := fk3 p hp8; omega
      have rk3 : rkI g3 p (g3 16 p) = rkI e p (g3 16 p) := by rw [r31 g3 t3]
      have hfd : 0 < (ext g2 1 8 (g2 15) (ABV, ABV, 0, g2 16)).2.2.1 → g3 16 p = (tlR e p (plc h p) (h (23 + p) 3) (trN (g 6) (g0 7) L)).2.2.2 p := fun z => by rw [show g3 16 = (SG g3).2.2.2 from rfl, m3]; exact f5 z p hp8
      have rr := rkI_rng ((TF_RE re t3).ri hI) hp8 (g3 16 p)
      show VW X 81 _ [mI (b01 (0 < (ext g2 1 8 (g2 15) (ABV, ABV, 0, g2 16)).2.2.1))] g3
      refine v_ifB_eq hX eX7_findPayingTale_81 (tgt := 123) rfl (fun c81 => ?_) (fun c81 => ?_)
      · exact next g3 t3 g36 g37 (fun z => c81 (by rw [f3]; exact z.1))
      · refine v_aload_n hX eX7_findPayingTale_84 rfl ?_
        refine v_aload_n hX eX7_findPayingTale_85 rfl ?_
        refine v_getA hX eX7_findPayingTale_86 fi_X7_19 ⟨by decide, rfl⟩ rfl ?_
        refine v_iload_n hX eX7_findPayingTale_89 rfl ?_
        refine v_fnV hX eX7_findPayingTale_90 lV_X7_188 ok_MX6_foundFor ⟨by decide, rfl⟩ rfl ⟨rfl, Nat.le_of_ble_eq_true rfl⟩ (Nat.le_of_ble_eq_true rfl) (c_X6_foundFor ⟨by omega, by omega⟩) rfl ?_
        try simp only [Int.toNat_natCast, Int.toNat_zero, Int.reduceToNat]
        refine v_fnV hX eX7_findPayingTale_93 lV_X7_134 ok_MX3_rankIn (OB_pu (by omega)) rfl ⟨rfl, Nat.le_of_ble_eq_true rfl⟩ (Nat.le_of_ble_eq_true rfl) (c_X3_rankIn hp8 fd3) rfl ?_
        try simp only [Int.toNat_natCast, Int.toNat_zero, Int.reduceToNat]
        refine v_iload_n hX eX7_findPayingTale_96 rfl ?_
        refine v_icmp_ge hX eX7_findPayingTale_97 (tgt := 123) rfl ⟨by omega, by omega⟩ ⟨by omega, by omega⟩ (fun c97 => ?_) (fun c97 => ?_)
        · exact next g3 t3 g36 g37 (fun z => by have := z.2; rw [← hfd c81, ← rk3] at this; omega)
        · refine v_aload_n hX eX7_findPayingTale_100 rfl ?_
          refine v_getA hX eX7_findPayingTale_101 fi_X7_37 ⟨by decide, rfl⟩ rfl ?_
          refine v_iconst hX eX7_findPayingTale_104 ?_
          refine v_aload_n hX eX7_findPayingTale_105 rfl ?_
          refine v_getA hX eX7_findPayingTale_106 fi_X7_34 ⟨by decide, rfl⟩ rfl ?_
          refine v_iconst hX eX7_findPayingTale_109 ?_
          refine v_iload hX eX7_findPayingTale_110 rfl ?_
          refine v_acopy (n := L) hX eX7_findPayingTale_112 lA_X7_234 ⟨by decide, rfl⟩ ⟨by decide, rfl⟩ ⟨L5.2, L5.2⟩ (Nat.le_of_ble_eq_true rfl) ?_
          try simp only [Int.toNat_natCast, Int.toNat_zero, Int.reduceToNat]
          refine v_aload_n hX eX7_findPayingTale_115 rfl ?_
          refine v_iload hX eX7_findPayingTale_116 rfl ?_
          refine v_putI hX eX7_findPayingTale_118 fi_X7_119 ⟨by decide, rfl⟩ ?_
          refine v_iconst hX eX7_findPayingTale_121 ?_
          exact v_zreturn hX hR eX7_findPayingTale_122 rfl (by omega) (hq _ _ (Or.inl ⟨g 6, g3, by rw [tlC, if_pos (pb_iff.mpr ⟨by rw [← f3]; exact c81, by rw [← hfd c81, ← rk3]; omega⟩)], hf, rfl, t3, g36, rfl⟩))
  have r0 := TF_RE re t0
  have fill : ∀ i : Nat, i ≤ L → VW X 12 [some (mA 0), some (mI p), some (mA (23 + p)), some (mI honest), some (mI L), some (mI i)] [] (setR g0 6 (idF (g0 6) i)) := by
    refine loop_up _ ?_ ?_
    · have t1 : TF e p (setR g0 6 (idF (g0 6) L)) := by
        obtain ⟨t1, t2, t3, t4, t5, t6, t7⟩ := t0
        exact ⟨fun a a1 a2 a3 a4 a5 a6 a7 a8 => by rw [setR_ne a2]; exact t1 a a1 a2 a3 a4 a5 a6 a7 a8, fun j j1 j2 j3 j4 => by rw [setR_ne (by decide)]; exact t2 j j1 j2 j3 j4, fun b hb => by rw [setR_ne (by decide), setR_ne (by decide)]; exact t3 b hb, fun i hi => by rw [setR_ne (by decide), setR_ne (by decide)]; exact t4 i hi, fun j hj hj2 => by rw [setR_ne (by decide)]; exact t5 j hj hj2, by rw [setR_ne (by decide)]; exact t6, fun j hj => by rw [setR_ne (by decide)]; exact t7 j hj⟩
      have pf : PF (idF (g0 6) L) L := ⟨fun i hi => by unfold idF; rw [if_pos hi]; omega, fun j hj => ⟨j, hj, by unfold idF; rw [if_pos hj]⟩⟩
      refine v_iload hX eX7_findPayingTale_12 rfl ?_
      refine v_iload hX eX7_findPayingTale_14 rfl ?_
      refine v_icmp_ge hX eX7_findPayingTale_16 (tgt := 34) rfl ⟨by omega, by omega⟩ ⟨by omega, by omega⟩ (fun c16 => ?_) (fun c16 => False.elim ((by omega)))
      refine v_iconst hX eX7_findPayingTale_34 ?_
      refine v_istore hX eX7_findPayingTale_35 rfl rfl ?_
      exact loop 120 0 _ (g0 7) _ (by decide) (by decide) pf t1 setR_same (setR_ne (by decide)) (fun _ _ => rfl) hq
    · intro i hi ih
      refine v_iload hX eX7_findPayingTale_12 rfl ?_
      refine v_iload hX eX7_findPayingTale_14 rfl ?_
      refine v_icmp_ge hX eX7_findPayingTale_16 (tgt := 34) rfl ⟨by omega, by omega⟩ ⟨by omega, by omega⟩ (fun c16 => False.elim ((by omega))) (fun c16 => ?_)
      refine v_aload_n hX eX7_findPayingTale_19 rfl ?_
      refine v_getA hX eX7_findPayingTale_20 fi_X7_37 ⟨by decide, rfl⟩ rfl ?_
      refine v_iload hX eX7_findPayingTale_23 rfl ?_
      refine v_iload hX eX7_findPayingTale_25 rfl ?_
      refine v_iast hX eX7_findPayingTale_27 (by first | exact ⟨by decide, rfl⟩ | exact AR_rk (by omega)) ⟨by omega, by omega⟩ ?_
      try simp only [Int.toNat_natCast, Int.toNat_zero, Int.reduceToNat]
      rw [idF_s]
      refine v_iinc hX eX7_findPayingTale_28 rfl rfl rfl ?_
      refine v_goto hX eX7_findPayingTale_31 (tgt := 12) rfl ?_
      exact ih
  have f0 := fill 0 (by omega)
  rw [show setR g0 6 (idF (g0 6) 0) = g0 from by funext a b; by_cases ha : a = 6 <;> simp [setR, idF, ha]] at f0
  have gL : g0 1 4 = (L : Int) := by rw [r0.1]; exact Le.symm
  show VW X 0 [some (mA 0), some (mI p), some (mA (23 + p)), some (mI honest), none, none] [] g0
  refine v_aload_n hX eX7_findPayingTale_0 rfl ?_
  refine v_getA hX eX7_findPayingTale_1 fi_X7_10 ⟨by decide, rfl⟩ rfl ?_
  refine v_getI hX eX7_findPayingTale_4 fi_X7_104 ⟨by decide, rfl⟩ ?_
  rw [gL]
  refine v_istore hX eX7_findPayingTale_7 rfl rfl ?_
  refine v_iconst hX eX7_findPayingTale_9 ?_
  refine v_istore hX eX7_findPayingTale_10 rfl rfl ?_
  exact f0
/-- what a call of lie leaves, where a PLAN was sought -/
def liR (h : Hp) (p : Nat) (r : Option MV) (g : Hp) : Prop :=
  (¬ 0 < (bsR h).2.2.1 ∧ r = some (mI (-2)) ∧ TF (PRH h) p g) ∨ (0 < (bsR h).2.2.1 ∧ ¬ 1 < rkI h p ((bsR h).2.2.2 p) ∧ r = some (mI 0) ∧ TF (PRH h) p g) ∨
  (0 < (bsR h).2.2.1 ∧ 1 < rkI h p ((bsR h).2.2.2 p) ∧ ∃ fa, payR (PRH h) p (plc h p) (h (23 + p) 3) (rkI h p ((bsR h).2.2.2 p)) (h 1 4).toNat (h 7) (idF fa (h 1 4).toNat) 120 r g)
set_option maxHeartbeats 2000000 in
set_option maxRecDepth 20000 in
theorem c_X7_lie {d : Nat} {h : Hp} {p : Nat} (hI : RI h) (hS : SCI h) (hF : FDI h) (hT : ∀ j, j < 5 → 0 ≤ h 7 j ∧ h 7 j ≤ 6) (hP : ∀ p, p < (h 1 3).toNat → 0 ≤ plc h p ∧ plc h p ≤ 7) (hp : p < (h 1 3).toNat) (hpr : prF h p = true) (hc : cntF (prF h) (h 1 3).toNat ≤ 5) (hQ1 : 0 < (bsR h).2.2.1 → 0 < h 1 4) : Fr (d + 14) MX7_lie [mA 0, mI p] h (liR h p) := by
  intro Q hq X hX hR
  have hn := hI.n
  have hin : inN h p := ⟨by omega, by omega⟩
  have hp8 : p < 8 := by omega
  have hbl : bs (prF h) (h 1 3).toNat < 256 := bs_lt8 _ (by omega)
  have hE := PRH_ENV hI hS
  have hz : h (23 + p) 6 = 1 := by simpa [prF] using hpr
  have rP := PRi_RE (h := h) (i := 8)
  have tfb : ∀ g0, BG (PRH h) g0 → (∀ j, isP (PRH h) j = false → g0 15 j = PRH h 15 j) → SG g0 = bsR h → TF (PRH h) p g0 := by
    intro g0 m1 m2 m3
    refine ⟨fun a a1 a2 a3 a4 a5 a6 a7 a8 => m1.1 a a1 a4 a5 a6, fun j j1 j2 j3 j4 => m1.2 j j1 j2 j3 j4, fun b _ => by rw [BG_ne m1 (by decide) (by decide) (by decide) (by decide), BG_ne m1 (by decide) (by decide) (by decide) (by decide)]; exact ⟨rfl, rfl⟩, fun i hi => by rw [BG_ne m1 (by decide) (by decide) (by decide) (by decide), BG_ne m1 (by decide) (by decide) (by decide) (by decide)]; exact hE.2.2.1 i hi, fun j hj hj2 => by rw [m2 j hj2, PRH_15 hj], ?_, fun j hj => by rw [BG_ne m1 (by decide) (by decide) (by decide) (by decide), show PRH h 7 = h 7 from PRi_ne (by decide) (by decide) (by decide) (by decide) (by decide) (by decide) (by decide)]; exact hT j hj⟩
    rw [show g0 16 = (SG g0).2.2.2 from rfl, m3]
    refine ext_fok (by have := hE.2.1; omega) 8 _ _ (fun p hp => by rw [PRH_15 hp]; decide) (fun p hp => ?_)
    show -1 ≤ PRH h 16 p ∧ PRH h 16 p < 5
    rw [show PRH h 16 = h 16 from PRi_ne (by decide) (by decide) (by decide) (by decide) (by decide) (by decide) (by decide)]
    exact hF p hp
  show VW X 0 [some (mA 0), some (mI p), none, none] [] h
  refine v_aload_n hX eX7_lie_0 rfl ?_
  refine v_getA hX eX7_lie_1 fi_X7_10 ⟨by decide, rfl⟩ rfl ?_
  refine v_iload_n hX eX7_lie_4 rfl ?_
  refine v_fnV hX eX7_lie_5 lV_X7_55 ok_MX4_pupilOf ⟨by decide, rfl⟩ rfl ⟨rfl, Nat.le_of_ble_eq_true rfl⟩ (Nat.le_of_ble_eq_true rfl) (c_X4_pupilOf hI hin) rfl ?_
  try simp only [Int.toNat_natCast, Int.toNat_zero, Int.reduceToNat]
  refine v_astore_n hX eX7_lie_8 rfl rfl ?_
  refine v_aload_n hX eX7_lie_9 rfl ?_
  refine v_ifnull hX eX7_lie_10 ?_
  refine v_aload_n hX eX7_lie_13 rfl ?_
  refine v_getZ hX eX7_lie_14 fi_X7_84 (OB_pu (by omega)) ?_
  refine v_if_eq hX eX7_lie_17 (tgt := 34) rfl ⟨by omega, by omega⟩ (fun c17 => False.elim ((by omega))) (fun c17 => ?_)
  refine v_aload_n hX eX7_lie_20 rfl ?_
  refine v_getA hX eX7_lie_21 fi_X7_10 ⟨by decide, rfl⟩ rfl ?_
  refine v_fnV hX eX7_lie_24 lV_X7_107 ok_MX4_presentBits ⟨by decide, rfl⟩ rfl ⟨rfl, Nat.le_of_ble_eq_true rfl⟩ (Nat.le_of_ble_eq_true rfl) (c_X4_presentBits hI) rfl ?_
  try simp only [Int.toNat_natCast, Int.toNat_zero, Int.reduceToNat]
  refine v_fnS hX eX7_lie_27 lS_X7_111 ok_MJ6_bitCount_0f7a4 ⟨rfl, Nat.le_of_ble_eq_true rfl⟩ (Nat.le_of_ble_eq_true rfl) (c_bitCount hbl) rfl ?_
  try simp only [Int.toNat_natCast, Int.toNat_zero, Int.reduceToNat]
  rw [bcnt_bs _ (by omega)]
  refine v_iconst hX eX7_lie_30 ?_
  refine v_icmp_le hX eX7_lie_31 (tgt := 36) rfl ⟨by omega, by omega⟩ ⟨by omega, by omega⟩ (fun c31 => ?_) (fun c31 => False.elim ((by omega)))
  refine v_aload_n hX eX7_lie_36 rfl ?_
  refine v_getA hX eX7_lie_37 fi_X7_19 ⟨by decide, rfl⟩ rfl ?_
  refine v_aload_n hX eX7_lie_40 rfl ?_
  refine v_getA hX eX7_lie_41 fi_X7_10 ⟨by decide, rfl⟩ rfl ?_
  refine v_fnV0 hX eX7_lie_44 lV_X7_144 ok_MX6_prepare ⟨by decide, rfl⟩ rfl ⟨rfl, Nat.le_of_ble_eq_true rfl⟩ (Nat.le_of_ble_eq_true rfl) (c_X6_prepare hI hP) rfl ?_
  try simp only [Int.toNat_natCast, Int.toNat_zero, Int.reduceToNat]
  refine v_aload_n hX eX7_lie_47 rfl ?_
  refine v_getA hX eX7_lie_48 fi_X7_19 ⟨by decide, rfl⟩ rfl ?_
  refine v_frV hX eX7_lie_51 lV_X7_148 ok_MX6_findBest ⟨by decide, rfl⟩ rfl ⟨rfl, Nat.le_of_ble_eq_true rfl⟩ (Nat.le_of_ble_eq_true rfl) (c_X6_findBest hE) rfl ?_
  rintro r g0 ⟨rfl, m1, m2, m3⟩
  have t0 := tfb g0 m1 m2 m3
  have I0 := (TF_RE rP t0).ri hI
  have g16 : g0 16 = (bsR h).2.2.2 := by rw [show g0 16 = (SG g0).2.2.2 from rfl, m3]; rfl
  have fd := t0.2.2.2.2.2.1 p (by omega)
  have rk0 : rkI g0 p (g0 16 p) = rkI h p ((bsR h).2.2.2 p) := by unfold rkI; rw [(TF_RE rP t0).2.2.2.1, g16]
  have rr := rkI_rng hI (p := p) (by omega) ((bsR h).2.2.2 p)
  show VW X 54 _ [mI (b01 (0 < (bsR h).2.2.1))] g0
  refine v_ifB_ne hX eX7_lie_54 (tgt := 60) rfl (fun c54 => ?_) (fun c54 => ?_)
  · refine v_aload_n hX eX7_lie_60 rfl ?_
    refine v_aload_n hX eX7_lie_61 rfl ?_
    refine v_getA hX eX7_lie_62 fi_X7_19 ⟨by decide, rfl⟩ rfl ?_
    refine v_iload_n hX eX7_lie_65 rfl ?_
    refine v_fnV hX eX7_lie_66 lV_X7_188 ok_MX6_foundFor ⟨by decide, rfl⟩ rfl ⟨rfl, Nat.le_of_ble_eq_true rfl⟩ (Nat.le_of_ble_eq_true rfl) (c_X6_foundFor ⟨by omega, by omega⟩) rfl ?_
    try simp only [Int.toNat_natCast, Int.toNat_zero, Int.reduceToNat]
    refine v_fnV hX eX7_lie_69 lV_X7_134 ok_MX3_rankIn (OB_pu (by omega)) rfl ⟨rfl, Nat.le_of_ble_eq_true rfl⟩ (Nat.le_of_ble_eq_true rfl) (c_X3_rankIn (p := p) (by omega) ⟨by omega, by omega⟩) rfl ?_
    try simp only [Int.toNat_natCast, Int.toNat_zero, Int.reduceToNat]
    rw [rk0]
    refine v_istore_n hX eX7_lie_72 rfl rfl ?_
    refine v_iload_n hX eX7_lie_73 rfl ?_
    refine v_iconst hX eX7_lie_74 ?_
    refine v_icmp_le hX eX7_lie_75 (tgt := 92) rfl ⟨by omega, by omega⟩ ⟨by omega, by omega⟩ (fun c75 => ?_) (fun c75 => ?_)
    · refine v_iconst hX eX7_lie_92 ?_
      exact v_ireturn hX hR eX7_lie_93 rfl (hq _ _ (Or.inr (Or.inl ⟨c54, by omega, rfl, t0⟩)))
    · refine v_aload_n hX eX7_lie_78 rfl ?_
      refine v_iload_n hX eX7_lie_79 rfl ?_
      refine v_aload_n hX eX7_lie_80 rfl ?_
      refine v_iload_n hX eX7_lie_81 rfl ?_
      refine v_frV hX eX7_lie_82 lV_X7_191 ok_MX7_findPayingTale ⟨by decide, rfl⟩ rfl ⟨rfl, Nat.le_of_ble_eq_true rfl⟩ (Nat.le_of_ble_eq_true rfl) (c_X7_findPayingTale hI rP hE t0 hp (hP p hp) (hQ1 c54) ⟨by omega, by omega⟩) rfl ?_
      rintro r g1 hpay
      have g7 : g0 7 = h 7 := (BG_ne m1 (by decide) (by decide) (by decide) (by decide)).trans (PRi_ne (by decide) (by decide) (by decide) (by decide) (by decide) (by decide) (by decide))
      rw [g7] at hpay
      have fin : Q r g1 := hq _ _ (Or.inr (Or.inr ⟨c54, by omega, g0 6, hpay⟩))
      have rv : r = some (mI 1) ∨ r = some (mI 0) := by rcases hpay with ⟨f, g3, _, _, h3, _⟩ | ⟨_, h3, _⟩; exact Or.inl h3; exact Or.inr h3
      rcases rv with rfl | rfl
      · refine v_if_eq hX eX7_lie_85 (tgt := 92) rfl ⟨by decide, by decide⟩ (fun c => absurd c (by decide)) (fun _ => ?_)
        refine v_iconst hX eX7_lie_88 ?_
        refine v_goto hX eX7_lie_89 (tgt := 93) rfl ?_
        exact v_ireturn hX hR eX7_lie_93 rfl fin
      · refine v_if_eq hX eX7_lie_85 (tgt := 92) rfl ⟨by decide, by decide⟩ (fun _ => ?_) (fun c => absurd rfl c)
        refine v_iconst hX eX7_lie_92 ?_
        exact v_ireturn hX hR eX7_lie_93 rfl fin
  · refine v_bipush hX eX7_lie_57 (by decide) ?_
    exact v_ireturn hX hR eX7_lie_59 rfl (hq _ _ (Or.inl ⟨c54, rfl, t0⟩))
set_option maxHeartbeats 2000000 in
set_option maxRecDepth 20000 in
theorem c_X7_lie_N {d : Nat} {h : Hp} {p : Int} (hI : RI h) (hr : rng p) (bad : ¬ (inN h p ∧ prF h p.toNat = true ∧ cntF (prF h) (h 1 3).toNat ≤ 5)) : Fn (d + 14) MX7_lie [mA 0, mI p] h (some (mI (-1))) h := by
  intro Q hq X hX hR
  have hn := hI.n
  have hbl : bs (prF h) (h 1 3).toNat < 256 := bs_lt8 _ (by omega)
  have hcl := cntF_le (prF h) (h 1 3).toNat
  show VW X 0 [some (mA 0), some (mI p), none, none] [] h
  by_cases hp : inN h p
  · have hp8 := hp.lt hI
    have hz := (hI.pu (p := p.toNat) (by omega)).2.2.2.2.2.1
    refine v_aload_n hX eX7_lie_0 rfl ?_
    refine v_getA hX eX7_lie_1 fi_X7_10 ⟨by decide, rfl⟩ rfl ?_
    refine v_iload_n hX eX7_lie_4 rfl ?_
    refine v_fnV hX eX7_lie_5 lV_X7_55 ok_MX4_pupilOf ⟨by decide, rfl⟩ rfl ⟨rfl, Nat.le_of_ble_eq_true rfl⟩ (Nat.le_of_ble_eq_true rfl) (c_X4_pupilOf hI hp) rfl ?_
    try simp only [Int.toNat_natCast, Int.toNat_zero, Int.reduceToNat]
    refine v_astore_n hX eX7_lie_8 rfl rfl ?_
    refine v_aload_n hX eX7_lie_9 rfl ?_
    refine v_ifnull hX eX7_lie_10 ?_
    refine v_aload_n hX eX7_lie_13 rfl ?_
    refine v_getZ hX eX7_lie_14 fi_X7_84 (OB_pu (by omega)) ?_
    refine v_if_eq hX eX7_lie_17 (tgt := 34) rfl ⟨by omega, by omega⟩ (fun c17 => ?_) (fun c17 => ?_)
    · refine v_iconst hX eX7_lie_34 ?_
      exact v_ireturn hX hR eX7_lie_35 rfl (hq)
    · refine v_aload_n hX eX7_lie_20 rfl ?_
      refine v_getA hX eX7_lie_21 fi_X7_10 ⟨by decide, rfl⟩ rfl ?_
      refine v_fnV hX eX7_lie_24 lV_X7_107 ok_MX4_presentBits ⟨by decide, rfl⟩ rfl ⟨rfl, Nat.le_of_ble_eq_true rfl⟩ (Nat.le_of_ble_eq_true rfl) (c_X4_presentBits hI) rfl ?_
      try simp only [Int.toNat_natCast, Int.toNat_zero, Int.reduceToNat]
      refine v_fnS hX eX7_lie_27 lS_X7_111 ok_MJ6_bitCount_0f7a4 ⟨rfl, Nat.le_of_ble_eq_true rfl⟩ (Nat.le_of_ble_eq_true rfl) (c_bitCount hbl) rfl ?_
      try simp only [Int.toNat_natCast, Int.toNat_zero, Int.reduceToNat]
      rw [bcnt_bs _ (by omega)]
      refine v_iconst hX eX7_lie_30 ?_
      refine v_icmp_le hX eX7_lie_31 (tgt := 36) rfl ⟨by omega, by omega⟩ ⟨by omega, by omega⟩ (fun c31 => False.elim ((bad ⟨hp, by simp [prF]; omega, by omega⟩))) (fun c31 => ?_)
      refine v_iconst hX eX7_lie_34 ?_
      exact v_ireturn hX hR eX7_lie_35 rfl (hq)
  · refine v_aload_n hX eX7_lie_0 rfl ?_
    refine v_getA hX eX7_lie_1 fi_X7_10 ⟨by decide, rfl⟩ rfl ?_
    refine v_iload_n hX eX7_lie_4 rfl ?_
    refine v_fnV hX eX7_lie_5 lV_X7_55 ok_MX4_pupilOf ⟨by decide, rfl⟩ rfl ⟨rfl, Nat.le_of_ble_eq_true rfl⟩ (Nat.le_of_ble_eq_true rfl) (c_X4_pupilOf_N hI hr hp) rfl ?_
    try simp only [Int.toNat_natCast, Int.toNat_zero, Int.reduceToNat]
    refine v_astore_nN hX eX7_lie_8 rfl rfl ?_
    refine v_aload_nN hX eX7_lie_9 rfl ?_
    refine v_ifnullN hX eX7_lie_10 (tgt := 34) rfl ?_
    refine v_iconst hX eX7_lie_34 ?_
    exact v_ireturn hX hR eX7_lie_35 rfl (hq)
