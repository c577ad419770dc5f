/-! the law: its script, its calls, its end -/
theorem Fn.fr {d : Nat} {M : MT} {as : List MV} {h h' : Hp} {r : Option MV} {P : Option MV → Hp → Prop} (c : Fn d M as h r h') (p : P r h') : Fr d M as h P := fun Q hq => c Q (hq _ _ p)
def SCR (b L : Nat) (xs : Nat → Int32) (X : CT) : Prop := match X with
  | (_, _, _, _, s, _, _, _, _, _, al, _, _, A, _, _, _) => al 69 = b ∧ va_X b L xs s s.heap ∧ b < s.heap.size ∧ ¬ A b
def sv (xs : Nat → Int32) (j : Nat) : Int := (xs j).toInt
theorem sv_rng (xs : Nat → Int32) (j : Nat) : rng (sv xs j) := by
  have h1 := Int32.toInt_lt (xs j)
  have h2 := Int32.le_toInt (xs j)
  unfold sv
  constructor <;> omega
section LRULES
variable {d : Nat} {M : MT} {X : CT} {pc nx : Nat} {ls : List (Option MV)} {st : List MV} {h : Hp}
theorem v_sld {b L : Nat} {xs : Nat → Int32} {i : Int} (hX : Cx d M X) (hSC : SCR b L xs X) (hL : L ≤ 3072) (hd : Dc M pc (.iaload) 1 nx) (hi : 0 ≤ i ∧ i < L) (k : VW X nx ls (mI (sv xs i.toNat) :: st) h) : VW X pc ls (mI i :: mA 69 :: st) h := by
  obtain ⟨p, l, e, R, s, m, args, below, meth, c, al, tc, D, A, Z, rc, rs⟩ := X
  obtain ⟨hx, hb, hml, hr, hown, hts, hlk, hK, hA, hfr, hlo, hne⟩ := hX
  obtain ⟨hdg, rfl⟩ := hd
  obtain ⟨s1, s2, s3, s4⟩ := hSC
  intro H locs la cells slots hP hD hS hl h1 h2
  have := k H locs la cells slots hP hD hS hl h1 h2
  have e9 := oi_clamp hi.1 (by omega)
  rw [conc_map_cons, show conc al (mI (sv xs i.toNat)) = .int (xs i.toNat) from congrArg Value.int (oi_of _)] at this
  rw [conc_map_cons, conc_map_cons, show conc al (mA 69) = .ref b from congrArg Value.ref s1]
  refine va_sld hx hb s2 s3 s4 hS (i := Int32.ofInt i) (oi_in hi.1 hi.2 (by omega)) hdg ?_
  rw [e9]
  exact this
theorem v_slen {b L : Nat} {xs : Nat → Int32} (hX : Cx d M X) (hSC : SCR b L xs X) (hd : Dc M pc (.arraylength) 1 nx) (k : VW X nx ls (mI (L : Nat) :: st) h) : VW X pc ls (mA 69 :: st) h := by
  obtain ⟨p, l, e, R, s, m, args, below, meth, c, al, tc, D, A, Z, rc, rs⟩ := X
  obtain ⟨hx, hb, hml, hr, hown, hts, hlk, hK, hA, hfr, hlo, hne⟩ := hX
  obtain ⟨hdg, rfl⟩ := hd
  obtain ⟨s1, s2, s3, s4⟩ := hSC
  intro H locs la cells slots hP hD hS hl h1 h2
  have := k H locs la cells slots hP hD hS hl h1 h2
  rw [conc_map_cons] at this
  rw [conc_map_cons, show conc al (mA 69) = .ref b from congrArg Value.ref s1]
  exact va_slen hx hb s2 s3 s4 hS hdg this
theorem v_icmp_same (hX : Cx d M X) {a off : Int} {tgt : Nat} (hd : Dc M pc (.if_icmp .eq off) 3 nx) (ht : (pc : Int) + off = (tgt : Int)) (k : VW X tgt ls st h) : VW X pc ls (mI a :: mI a :: st) h := by
  obtain ⟨p, l, e, R, s, m, args, below, meth, c, al, tc, D, A, Z, rc, rs⟩ := X
  obtain ⟨hx, hb, hml, hr, hown, hts, hlk, hK, hA, hfr, hlo, hne⟩ := hX
  obtain ⟨hdg, rfl⟩ := hd
  intro H locs la cells slots hP hD hS hl h1 h2
  exact lv_icmp_eq hx hb hdg ht (fun _ => k H locs la cells slots hP hD hS hl h1 h2) (fun q => absurd rfl q)
end LRULES
theorem band31 (z : Int) : 0 ≤ band z 31 ∧ band z 31 ≤ 31 := by
  have h1 : (Int32.ofInt z &&& Int32.ofInt 31).toBitVec.toNat ≤ 31 := by
    show ((Int32.ofInt z).toBitVec &&& (Int32.ofInt 31).toBitVec).toNat ≤ 31
    rw [BitVec.toNat_and]
    exact Nat.and_le_right
  have h2 : band z 31 = (Int32.ofInt z &&& Int32.ofInt 31).toBitVec.toInt := rfl
  rw [h2, BitVec.toInt_eq_toNat_cond]
  split <;> omega
abbrev LSl (k : Nat) (l5 l6 : Option MV) : List (Option MV) := [some (mA 69), some (mA 0), some (mA 44), some (mA 68), some (mI ((6 * k : Nat) : Int)), l5, l6]
