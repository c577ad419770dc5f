/-! calls that change nothing -/
theorem prF_t0 {h : Hp} {v : Int} : prF (up h 44 0 v) = prF h := by funext p; unfold prF; rw [up_ne (by omega)]
theorem onF_t0 {h : Hp} {v : Int} : onF (up h 44 0 v) = onF h := by funext p; unfold onF; rw [up_ne (by omega)]
theorem ag_count {h : Hp} (g : REL h) {w : Int} (hw : rng w) : AGR MX7_count MX8_count [mI w] h := by
  have g' := g.t0 (v := 0)
  refine agr_fn2 (fun d => c_X7_count (d := d + 19) g.1.1.1 hw) (fun d => c_X8_count (d := d + 19) rfl g'.1.1.1 g'.1.1.2.1 g'.1.2.2.2.1.2.1 g'.1.2.2.2.2.2.1 hw) ?_ g'
  unfold cntW
  rw [prF_t0, onF_t0]
  rfl
theorem ag_wrong {h : Hp} (g : REL h) : AGR MX7_wrong MX8_wrong [] h := by
  have g' := g.t0 (v := 0)
  have hI := g.1.1.1
  refine agr_fn2 (fun d => c_X7_wrong (d := d + 15) hI (PLI_of hI g.1.2.2.1)) (fun d => c_X8_wrong (d := d + 17) rfl g'.1.1.1 g'.1.1.2.1 g'.1.1.2.2.1 g'.1.1.2.2.2.1 g'.1.2.2.1.1) ?_ g'
  exact flt_congr hI (up_obf (by decide)) (up_obf (by decide)) (fun p hp => by have := hI.n; rw [up_obf (show 23 + p ≠ 44 by omega)]; exact ⟨rfl, rfl, rfl⟩) (fun q hq => up_obf (by omega))
theorem ag_rank {h : Hp} (g : REL h) {p q : Int} (hp : rng p) (hq : rng q) : AGR MX7_rank MX8_rank [mI p, mI q] h := by
  have g' := g.t0 (v := 0)
  have hI := g.1.1.1
  have hn := hI.n
  have hm := hI.q
  have en : up h 44 0 0 44 1 = h 1 3 := (up_ne (by omega)).trans g.1.1.2.1.n
  have em : up h 44 0 0 44 11 = h 1 4 := (up_ne (by omega)).trans g.1.1.2.1.q
  by_cases ok : inN h p ∧ inQ h q
  · obtain ⟨⟨p1, p2⟩, q1, q2⟩ := ok
    have c8 := fun d => c_X8_rank (d := d + 18) (h := h) (g := up h 44 0 0) (c := up h 44 0 0) (p := p.toNat) (q := q.toNat) rfl (by omega) (by omega) (by rw [up_ob (by decide)]; omega) (by omega) (by omega) (g'.1.2.1.1 p.toNat (by rw [up_ob (by decide)]; omega)).1
    rw [show ((p.toNat : Nat) : Int) = p by omega, show ((q.toNat : Nat) : Int) = q by omega] at c8
    exact agr_fn2 (fun d => c_X7_rank (d := d + 18) hI ⟨p1, p2⟩ ⟨q1, q2⟩) c8 (up_ob (by omega)) g'
  · exact agr_fn (fun d => c_X7_rank_N (d := d + 18) hI hp hq ok) (fun d => c_X8_rank_N (d := d + 18) rfl (by omega) (by omega) hp hq (by rw [en, em]; exact ok)) g'
theorem rkI_t0 {h : Hp} {v : Int} {p : Nat} (hp : p < 8) : rkI (up h 44 0 v) p = rkI h p := by
  funext j; unfold rkI; rw [up_obf (by omega)]
theorem plF_t0 {h : Hp} {v : Int} : plF (up h 44 0 v) = plF h := by
  funext p; unfold plF; rw [prF_t0, up_ob (by decide)]
theorem wrtW_t0 {h : Hp} (hI : RI h) (hL : PLI h) {v w : Int} : wrtW (up h 44 0 v) w = wrtW h w := by
  have hn := hI.n
  have e1 : up h 44 0 v 1 = h 1 := up_obf (by decide)
  have e4 : up h 44 0 v 4 = h 4 := up_obf (by decide)
  have a1 : cntF (crF (up h 44 0 v) w) (h 1 3).toNat = cntF (crF h w) (h 1 3).toNat := cntF_congr _ (fun i hi => by unfold crF; rw [plF_t0, rkI_t0 (by omega), e4])
  have a2 : sumN (grF (up h 44 0 v)) (h 1 3).toNat = sumN (grF h) (h 1 3).toNat := sumN_congr _ (fun i hi => by unfold grF; rw [plF_t0, rkI_t0 (by omega), e4, up_ne (by omega)])
  have a3 : sumN (fun a => ((cntF (fpF (up h 44 0 v) a) (h 1 3).toNat : Nat) : Int)) (h 1 3).toNat = sumN (fun a => ((cntF (fpF h a) (h 1 3).toNat : Nat) : Int)) (h 1 3).toNat := sumN_congr _ (fun i hi => by
    rw [cntF_congr (f := fpF (up h 44 0 v) i) (g := fpF h i) _ (fun j hj => by unfold fpF frB; rw [plF_t0, e4, up_ne (by omega)])])
  have a4 : ∀ n, useN (up h 44 0 v) n = useN h n := by
    intro n
    induction n with
    | zero => rfl
    | succ n ih => rw [useN, useN, ih, plF_t0, e4]
  unfold wrtW
  rw [e1, a1, a2, a3, a4]
theorem ag_worth {h : Hp} (g : REL h) {w : Int} (hw : rng w) : AGR MX7_worth MX8_worth [mI w] h := by
  have g' := g.t0 (v := 0)
  have hI := g.1.1.1
  have hL := PLI_of hI g.1.2.2.1
  exact agr_fn2 (fun d => c_X7_worth (d := d + 16) hI hL hw) (fun d => c_X8_worth (d := d + 19) rfl g'.1.1.1 g'.1.1.2.1 g'.1.2.1.1 (PLI_of g'.1.1.1 g'.1.2.2.1) g'.1.2.2.1.1 hw) (wrtW_t0 hI hL) g'
theorem ag_year {h : Hp} (g : REL h) {y p : Int} (hy : rng y) (hp : rng p) : AGR MX7_year MX8_year [mI y, mI p] h := by
  have g' := g.t0 (v := 0)
  have hI := g.1.1.1
  have hn := hI.n
  obtain ⟨y1, y2, y3, y4, y5⟩ := g.1.2.2.2.1
  have en : up h 44 0 0 44 1 = h 1 3 := (up_ne (by omega)).trans g.1.1.2.1.n
  have e31 : up h 44 0 0 44 31 = h 3 2 := (up_ne (by omega)).trans y2
  by_cases ok : 0 ≤ y ∧ y < h 3 2 ∧ inN h p
  · obtain ⟨o1, o2, p1, p2⟩ := ok
    obtain ⟨r1, r2, r3, r4, r5⟩ := y3 y.toNat p.toNat (by omega) (by omega)
    have e66 : ∀ b, up h 44 0 0 66 b = h 66 b := fun b => up_ob (by decide)
    have c8 := fun d => c_X8_year (d := d + 18) (h := h) (g := up h 44 0 0) (y := y.toNat) (p := p.toNat) rfl (by omega) (by omega) (by omega) (by omega) (by rw [e66]; constructor <;> omega)
    rw [show ((p.toNat : Nat) : Int) = p by omega, show ((y.toNat : Nat) : Int) = y by omega] at c8
    refine agr_fn2 (fun d => c_X7_year (d := d + 18) hI y1 hy hp ⟨o1, o2, p1, p2⟩) c8 ?_ g'
    rw [e66, up_ob (by decide), show (y * 8 + p).toNat = 8 * y.toNat + p.toNat by omega]
    split
    · exact (r4 (by omega)).2
    · exact (r5 (by omega)).2.symm
  · exact agr_fn (fun d => c_X7_year_N (d := d + 18) hI y1 hy hp ok) (fun d => c_X8_year_N (d := d + 18) rfl (by omega) (by omega) hy hp (by rw [en, e31]; exact fun z => ok ⟨z.1.1, z.1.2, z.2⟩)) g'
