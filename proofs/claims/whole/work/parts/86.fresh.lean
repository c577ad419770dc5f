/-! the numbers of a fresh start, and the relation there -/
def hZ : Hp := fun k => if 23 ≤ k ∧ k < 31 then (fun j => if j = 6 then 1 else 0) else if 31 ≤ k ∧ k < 39 then (fun j => if j < 5 then 6 else 0) else if 39 ≤ k ∧ k < 44 then (fun j => if j = 5 then 1 else 0) else if k = 4 then (fun j => if j < 8 then -1 else 0) else fun _ => 0
theorem hZ_z {k : Nat} (a : ¬ (23 ≤ k ∧ k < 44)) (b : k ≠ 4) (j : Nat) : hZ k j = 0 := by
  unfold hZ
  rw [if_neg (by omega), if_neg (by omega), if_neg (by omega), if_neg b]
theorem hZ_p {p : Nat} (hp : p < 8) (j : Nat) : hZ (23 + p) j = if j = 6 then 1 else 0 := by
  unfold hZ
  rw [if_pos (by omega)]
theorem hZ_r {p : Nat} (hp : p < 8) (j : Nat) : hZ (31 + p) j = if j < 5 then 6 else 0 := by
  unfold hZ
  rw [if_neg (by omega), if_pos (by omega)]
theorem hZ_q {q : Nat} (hq : q < 5) (j : Nat) : hZ (39 + q) j = if j = 5 then 1 else 0 := by
  unfold hZ
  rw [if_neg (by omega), if_neg (by omega), if_pos (by omega)]
theorem hZ_4 (j : Nat) : hZ 4 j = if j < 8 then -1 else 0 := by
  unfold hZ
  rw [if_neg (by omega), if_neg (by omega), if_neg (by omega), if_pos rfl]
theorem hZ_p0 {p : Nat} (hp : p < 8) {j : Nat} (hj : j ≠ 6) : hZ (23 + p) j = 0 := by rw [hZ_p hp, if_neg hj]
theorem hZ_p6 {p : Nat} (hp : p < 8) : hZ (23 + p) 6 = 1 := by rw [hZ_p hp, if_pos rfl]
theorem hZ_r6 {p : Nat} (hp : p < 8) {j : Nat} (hj : j < 5) : hZ (31 + p) j = 6 := by rw [hZ_r hp, if_pos hj]
theorem hZ_q0 {q : Nat} (hq : q < 5) {j : Nat} (hj : j ≠ 5) : hZ (39 + q) j = 0 := by rw [hZ_q hq, if_neg hj]
theorem hZ_q5 {q : Nat} (hq : q < 5) : hZ (39 + q) 5 = 1 := by rw [hZ_q hq, if_pos rfl]
theorem hZ_n : hZ 1 3 = 0 := hZ_z (by omega) (by omega) 3
theorem hZ_m : hZ 1 4 = 0 := hZ_z (by omega) (by omega) 4
theorem hZ_no {p : Nat} (h : p < (hZ 1 3).toNat) : False := by
  rw [hZ_n] at h
  exact absurd h (Nat.not_lt_zero p)
theorem hZ_noq {p : Nat} (h : p < (hZ 1 4).toNat) : False := by
  rw [hZ_m] at h
  exact absurd h (Nat.not_lt_zero p)
theorem hZ_RI : RI hZ := by
  refine ⟨by rw [hZ_n]; omega, by rw [hZ_m]; omega, fun p hp => ?_, fun q hq => ?_, fun i _ => by rw [hZ_z (by omega) (by omega)]; constructor <;> omega⟩
  · refine ⟨?_, ?_, ?_, ?_, ?_, Or.inr (hZ_p6 hp), fun j hj => by rw [hZ_r6 hp hj]; omega⟩
    · rw [hZ_p0 hp (by omega)]; omega
    · rw [hZ_p0 hp (by omega)]; omega
    · rw [hZ_p0 hp (by omega)]; omega
    · rw [hZ_p0 hp (by omega)]; omega
    · rw [hZ_p0 hp (by omega)]; omega
  · refine ⟨?_, ?_, ?_, ?_, ?_, Or.inr (hZ_q5 hq), fun z => ?_⟩
    · rw [hZ_q0 hq (by omega)]; omega
    · rw [hZ_q0 hq (by omega)]; omega
    · rw [hZ_q0 hq (by omega)]; omega
    · rw [hZ_q0 hq (by omega)]; omega
    · rw [hZ_q0 hq (by omega)]; constructor <;> omega
    · rw [hZ_q0 hq (by omega)]; omega
theorem hZ_fr {a b : Nat} (ha : a < 8) : frB hZ a b = false := by
  unfold frB
  rw [hZ_p0 ha (by omega)]
  exact Nat.zero_testBit b
theorem hZ_ap {a b : Nat} (ha : a < 8) : apB hZ a b = false := by
  unfold apB
  rw [hZ_p0 ha (by omega)]
  exact Nat.zero_testBit b
theorem hZ_G1 : G1 hZ := by
  refine ⟨hZ_RI, ⟨(hZ_z (by omega) (by omega) 1).trans hZ_n.symm, (hZ_z (by omega) (by omega) 11).trans hZ_m.symm, fun p hp => (hZ_no hp).elim, fun a b ha => (hZ_no ha).elim, fun q hq => (hZ_noq hq).elim, fun i hi => (hZ_no hi).elim⟩, fun q hq => (hZ_noq hq).elim, fun a ha => (hZ_no ha).elim, ⟨fun i hi => (hZ_no hi).elim, fun p hp => (hZ_no hp).elim, fun i j hi => (hZ_no hi).elim⟩, fun p _ hp => ?_, fun a b ha hb _ => ?_, fun q _ hq => hZ_q5 hq⟩
  · exact ⟨hZ_p0 hp (by omega), hZ_p0 hp (by omega), hZ_p0 hp (by omega), hZ_p0 hp (by omega), hZ_p6 hp, fun j hj => hZ_r6 hp hj⟩
  · exact ⟨hZ_z (by omega) (by omega) _, hZ_z (by omega) (by omega) _, hZ_fr ha, hZ_ap ha⟩
theorem hZ_G2 : G2 hZ := by
  refine ⟨fun p hp => (hZ_no hp).elim, fun p hp => ?_⟩
  unfold WI
  rw [hZ_p0 hp (by omega)]
  have e : cntF (fun j => decide (hZ (31 + p) j ≠ 6)) 5 = 0 := cntF_no0 (fun j hj => by
    show ¬ decide (hZ (31 + p) j ≠ 6) = true
    rw [hZ_r6 hp hj]
    decide)
  rw [e]
  rfl
theorem hZ_G5 : G5 hZ := by
  have e : hZ 3 2 = 0 := hZ_z (by omega) (by omega) 2
  refine ⟨by rw [e]; omega, (hZ_z (by omega) (by omega) 31).trans e.symm, fun y p hy => ?_, fun i _ => by rw [hZ_z (by omega) (by omega)]; omega, fun p hp => ?_⟩
  · rw [e] at hy
    omega
  · rw [hZ_p0 hp (by omega), e]
    rfl
theorem hZ_G6 : G6 hZ := by
  have e : hZ 0 7 = 0 := hZ_z (by omega) (by omega) 7
  refine ⟨by rw [e]; omega, (hZ_z (by omega) (by omega) 36).trans e.symm, fun i hi => ?_⟩
  rw [e] at hi
  omega
theorem hZ_REL : REL hZ := by
  refine ⟨⟨hZ_G1, hZ_G2, ⟨fun p hp => (hZ_no hp).elim, fun p _ hp => by rw [hZ_4, if_pos hp]⟩, hZ_G5, hZ_G6⟩, fun i _ => ?_, fun p _ => ?_, fun j _ => ?_⟩
  · rw [hZ_z (by omega) (by omega), hZ_z (by omega) (by omega)]
    omega
  · rw [hZ_z (by omega) (by omega)]
    omega
  · rw [hZ_z (by omega) (by omega)]
    omega
