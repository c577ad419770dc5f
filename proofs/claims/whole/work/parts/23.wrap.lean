-- ints as ints go: a number and what is left of it in 32 bits are one value
def w32 (a : Int) : Int := (Int32.ofInt a).toInt
theorem w32_rng (a : Int) : rng (w32 a) := by
  have h1 := Int32.toInt_lt (Int32.ofInt a)
  have h2 := Int32.le_toInt (Int32.ofInt a)
  unfold w32
  constructor <;> omega
theorem w32_id {a : Int} (h : rng a) : w32 a = a := oi_toInt h
theorem oi_w32 (a : Int) : Int32.ofInt (w32 a) = Int32.ofInt a := oi_of _
theorem w32_add (a b : Int) : w32 (w32 a + b) = w32 (a + b) := by
  unfold w32
  rw [Int32.ofInt_add, Int32.ofInt_add, show Int32.ofInt (Int32.ofInt a).toInt = Int32.ofInt a from oi_of _]
theorem w32_add2 (a b : Int) : w32 (a + w32 b) = w32 (a + b) := by rw [Int.add_comm, w32_add, Int.add_comm]
theorem w32_mul (a b : Int) : w32 (w32 a * b) = w32 (a * b) := by
  unfold w32
  rw [Int32.ofInt_mul, Int32.ofInt_mul, show Int32.ofInt (Int32.ofInt a).toInt = Int32.ofInt a from oi_of _]
theorem i2b_rng (a : Int) : rng (i2b a) := by
  have h1 := Int32.toInt_lt ((Int32.ofInt a).toInt8.toInt32)
  have h2 := Int32.le_toInt ((Int32.ofInt a).toInt8.toInt32)
  unfold i2b
  constructor <;> omega
theorem i2b_w32 (a : Int) : i2b (w32 a) = i2b a := by
  unfold i2b
  rw [oi_w32]
section VWRAP
variable {d : Nat} {M : MT} {X : CT} {pc nx : Nat} {ls : List (Option MV)} {st : List MV} {h : Hp}
theorem v_wrap {a : Int} (k : VW X pc ls (mI (w32 a) :: st) h) : VW X pc ls (mI a :: st) h := by
  obtain ⟨p, l, e, R, s, m, args, below, meth, c, al, tc, D, A, Z, rc, rs⟩ := X
  intro H locs la cells slots hP hD hS hl h1 h2
  have := k H locs la cells slots hP hD hS hl h1 h2
  rw [conc_map_cons, show conc al (mI (w32 a)) = conc al (mI a) from congrArg Value.int (oi_w32 a)] at this
  exact this
/-- Math.max -/
theorem v_max (hX : Cx (d + 1) M X) {idx : Nat} {a b : Int} (hd : Dc M pc (.invokestatic idx) 3 nx) (hl : Cond.methodLink M.1.cls idx Lib.Math.max.name ∈ TB) (ha : rng a) (hb2 : rng b) (hst : (st.map mcat).sum ≤ 8) (k : VW X nx ls (mI (if a < b then b else a) :: st) h) : VW X pc ls (mI b :: mI a :: st) h := by
  obtain ⟨p, l, e, R, s, m, args, below, meth, c, al, tc, D, A, Z, rc, rs⟩ := X
  obtain ⟨hx, hb, hml, hr, hown, hts, hlk, hK, hA, hfr, hlo, hne⟩ := hX
  obtain ⟨hdg, rfl⟩ := hd
  intro H locs la cells slots hP hD hS hlh h1 h2
  have hrm := st_room (al := al) hst
  refine va_mmax hx hb hlh.1.symm hown (hts _ hl) (hts _ lX_st) (hts _ lX_in) (hts _ lX_code) (by omega) (by omega) (by omega) (by omega) hdg ?_
  have := k H locs la cells slots hP hD hS hlh h1 h2
  rw [conc_map_cons] at this
  have e1 : conc al (mI (if a < b then b else a)) = .int (if Int32.ofInt a < Int32.ofInt b then Int32.ofInt b else Int32.ofInt a) := by
    show Value.int _ = Value.int _
    congr 1
    simp only [oi_lt ha hb2]
    split <;> rfl
  rw [e1] at this
  exact this
end VWRAP
