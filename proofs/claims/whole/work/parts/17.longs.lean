-- longs: shifts; a copy of an int array; Math.max
theorem w8_c : ∀ k, k < 64 → ((nI k).toInt64 &&& 63) = lN k := by decide +kernel
theorem w8_sm : ∀ k, k < 64 → (BitVec.ofNat 64 k).smod 64 = BitVec.ofNat 64 k := by decide +kernel
theorem w8_tn : ∀ k, k < 64 → ((lN k).toBitVec.smod 64).toNat = k := by decide +kernel
theorem w8_shl (n : Nat) {k : Nat} (hk : k < 64) : lN n <<< ((nI k).toInt64 &&& 63) = lN (n * 2 ^ k) := by
  rw [w8_c k hk]
  apply Int64.toBitVec_inj.mp
  rw [Int64.toBitVec_shiftLeft]
  show BitVec.ofNat 64 n <<< ((BitVec.ofNat 64 k).smod 64) = BitVec.ofNat 64 (n * 2 ^ k)
  rw [w8_sm k hk]
  apply BitVec.eq_of_toNat_eq
  rw [BitVec.shiftLeft_eq', BitVec.toNat_shiftLeft, BitVec.toNat_ofNat, BitVec.toNat_ofNat, BitVec.toNat_ofNat, Nat.mod_eq_of_lt (show k < 2 ^ 64 by omega), Nat.shiftLeft_eq, Nat.mul_mod, Nat.mod_mod, ← Nat.mul_mod]
theorem w8_shr {n k : Nat} (hn : n < 2 ^ 63) (hk : k < 64) : lN n >>> ((nI k).toInt64 &&& 63) = lN (n / 2 ^ k) := by
  have hd : n / 2 ^ k ≤ n := Nat.div_le_self _ _
  rw [w8_c k hk]
  apply Int64.toInt_inj.mp
  have e : (lN n >>> lN k).toInt = (lN n).toInt >>> k := by
    have h := BitVec.toInt_sshiftRight (x := (lN n).toBitVec) (n := ((lN k).toBitVec.smod 64).toNat)
    rw [w8_tn k hk] at h
    rw [← w8_tn k hk] at h ⊢
    rw [w8_tn k hk] at h ⊢
    show ((lN n).toBitVec.sshiftRight ((lN k).toBitVec.smod 64).toNat).toInt = _
    rw [w8_tn k hk]
    exact h
  rw [e, Int.shiftRight_eq_div_pow, pk_lT hn, pk_lT (by omega)]
  rfl
theorem lshl_n {a k : Nat} (hk : k < 64) (h : a * 2 ^ k < 2 ^ 63) : lshl a k = ((a * 2 ^ k : Nat) : Int) := by
  unfold lshl
  rw [ol_nat, oi_nat, w8_shl a hk, pk_lT h]
theorem lshr_n {a k : Nat} (hk : k < 64) (h : a < 2 ^ 63) : lshr a k = ((a / 2 ^ k : Nat) : Int) := by
  unfold lshr
  rw [ol_nat, oi_nat, w8_shr h hk, pk_lT (Nat.lt_of_le_of_lt (Nat.div_le_self _ _) h)]
theorem lshr5 {a : Int} (h : 0 ≤ a ∧ a < 9223372036854775808) : lshr a 5 = a / 32 := by
  have := lshr_n (a := a.toNat) (k := 5) (by decide) (by omega)
  rw [← cast_toNat' h.1] at this
  rw [show (5 : Int) = ((5 : Nat) : Int) from rfl, this]
  omega
section VCOPY
variable {d : Nat} {M : MT} {X : CT} {pc nx : Nat} {ls : List (Option MV)} {st : List MV} {h : Hp}
def cpyH (h : Hp) (a b n : Nat) : Hp := fun x y => if x = b ∧ y < n then h a y else h x y
theorem WS_set2 {al : Nat → Nat} {tc : Nat → ClassId} {h g : Hp} {k : Nat} (x : va_E) (hx : x = cellE al tc g k) (hg : ∀ a, a ≠ k → g a = h a) : (WS al tc h).set k (al k, x) = WS al tc g := by
  subst hx
  apply List.ext_getElem?
  intro i
  by_cases hi : i = k
  · subst hi
    by_cases hn : i < KN
    · rw [WS_get hn, List.getElem?_set_self (by simp [WS, hn])]
    · simp [WS, hn, List.getElem?_set]
  · rw [List.getElem?_set_ne (Ne.symm hi)]
    by_cases hn : i < KN
    · rw [WS_get hn, WS_get hn, cellE_ne (h' := g) (h := h) (fun b => by rw [hg i hi])]
    · simp [WS, hn]
theorem v_acopy (hX : Cx (d + 1) M X) {idx a b n n0 n1 : Nat} (hd : Dc M pc (.invokestatic idx) 3 nx) (hl : Cond.methodLink M.1.cls idx arraycopyName ∈ TB) (ha : AR a 0 n0) (hb2 : AR b 0 n1) (hn : n ≤ n0 ∧ n ≤ n1) (hst : (st.map mcat).sum ≤ 8) (k : VW X nx ls st (cpyH h a b n)) : VW X pc ls (mI n :: mI 0 :: mA b :: mI 0 :: mA a :: st) h := by
  obtain ⟨p, l, e, R, s, m, args, below, meth, c, al, tc, D, A, Z, rc, rs⟩ := X
  obtain ⟨hx, hb, hml, hr, hown, hts, hlk, hK, hA, hfr, hlo, hne⟩ := hX
  obtain ⟨hdg, rfl⟩ := hd
  intro H locs la cells slots hP hD hS hlh h1 h2
  have l0 := ha.len
  have l1 := hb2.len
  have en : (nI n).toNatClampNeg = n := nI_clamp (by omega)
  have c0 : (WS al tc h)[a]? = some (al a, _) := cell_0 (al := al) (tc := tc) (h := h) ha ▸ ha.cell
  have c1 : (WS al tc h)[b]? = some (al b, _) := cell_0 (al := al) (tc := tc) (h := h) hb2 ▸ hb2.cell
  have hrm := st_room (al := al) hst
  refine va_copyi (sp := 0) (dp := 0) (n := nI n) (ty := .int) hx hb hlh.1.symm hown (hts _ hl) (hts _ lA_nat) (hts _ lA_st) (hts _ lA_in) hK hP hD hS a b 0 0 c0 c1 TY_0 TY_0 rfl (by decide) (by decide) (nI_pos (by omega)) (by rw [en]; show 0 + n ≤ n0; omega) (by rw [en]; show 0 + n ≤ n1; omega) (fun _ _ => rfl) (by omega) (by
      have : nativeFrameWords "java/lang/System" "arraycopy" 5 + 11 ≤ 40 := by decide +kernel
      omega) hdg (fun H1 locs1 hP1 hD1 hS1 => ?_)
  have e2 : (Sum.inl (tc 0, n1, Sum.inl (va_cpy (fun j => Int32.ofInt (h a j)) (fun j => Int32.ofInt (h b j)) (0 : Int32).toNatClampNeg (0 : Int32).toNatClampNeg (nI n).toNatClampNeg)) : va_E) = cellE al tc (cpyH h a b n) b := by
    rw [cell_0 hb2]
    refine congrArg (fun f => (Sum.inl (tc 0, n1, Sum.inl f) : va_E)) (funext fun j => ?_)
    rw [en, show (0 : Int32).toNatClampNeg = 0 from rfl]
    simp only [va_cpy, cpyH]
    by_cases hj : j < n <;> simp [hj]
  rw [WS_set2 _ e2 (fun x hx => by funext y; simp [cpyH, hx])] at hP1 hD1
  exact k H1 locs1 la cells slots hP1 hD1 hS1 hlh h1 h2
end VCOPY
