section VHEAP
variable {d : Nat} {M : MT} {X : CT} {pc nx : Nat} {ls : List (Option MV)} {st : List MV} {h : Hp}
/-- object k is of class ci; array k is of kind t and length n -/
def OB (k ci : Nat) : Prop := k < KN ∧ SH k = .inl ci
def AR (k t n : Nat) : Prop := k < KN ∧ SH k = .inr (t, n)
theorem OB.cell {al : Nat → Nat} {tc : Nat → ClassId} {h : Hp} {k ci : Nat} (o : OB k ci) : (WS al tc h)[k]? = some (al k, .inr (ci, (List.range (NF ci)).map (fval al h k ci))) := by
  rw [WS_get o.1]
  simp only [cellE, o.2]
theorem fval_at {al : Nat → Nat} {h : Hp} {k ci j : Nat} (hj : j < NF ci) : ((List.range (NF ci)).map (fval al h k ci))[j]? = some (fval al h k ci j) := by
  simp [hj]
theorem fval_set {al : Nat → Nat} {h : Hp} {k ci j : Nat} {v : Int} {w : Value} (hj : j < NF ci) (hw : w = fval al (up h k j v) k ci j) : ((List.range (NF ci)).map (fval al h k ci)).set j w = (List.range (NF ci)).map (fval al (up h k j v) k ci) := by
  subst hw
  apply List.ext_getElem?
  intro i
  by_cases hi : i = j
  · subst hi
    rw [List.getElem?_set_self (by simpa using hj), fval_at hj]
  · rw [List.getElem?_set_ne (Ne.symm hi)]
    by_cases hn : i < NF ci
    · rw [fval_at hn, fval_at hn]
      simp only [fval, up, hi, and_false, if_false]
    · simp [hn]
theorem v_getI (hX : Cx d M X) {idx ci j q : Nat} (hd : Dc M pc (.getfield idx) 3 nx) (hf : FI M.1.cls idx ci j 0) (ho : OB q ci) (k : VW X nx ls (mI (h q j) :: st) h) : VW X pc ls (mA q :: st) h := by
  obtain ⟨p, l, e, R, s, m, args, below, meth, c, al, tc, D, A, Z, rc, rs⟩ := X
  obtain ⟨hx, hb, hml, hr, hown, hts, hlk, hK, hA, hfr, hlo, hne⟩ := hX
  obtain ⟨hdg, rfl⟩ := hd
  intro H locs la cells slots hP hD hS hl h1 h2
  obtain ⟨C, T, N, hc, hj, hN, hk, hlink, -⟩ := hf
  have hin := (cl_facts ci C T N hc).1
  refine va_get (D := D) (ci := ci) (v := fval al h q ci j) hx hb hts hin hown hK hP q ho.cell hc j hj (hts _ hlink) (fun _ h9 => h9) (fval_at (hN ▸ hj)) hdg (vw_top (v := mI (h q j)) ?_ (k H locs la cells slots hP hD hS hl h1 h2))
  simp only [fval, hk]
  rfl
theorem v_getZ (hX : Cx d M X) {idx ci j q : Nat} (hd : Dc M pc (.getfield idx) 3 nx) (hf : FI M.1.cls idx ci j 3) (ho : OB q ci) (k : VW X nx ls (mI (h q j) :: st) h) : VW X pc ls (mA q :: st) h := by
  obtain ⟨p, l, e, R, s, m, args, below, meth, c, al, tc, D, A, Z, rc, rs⟩ := X
  obtain ⟨hx, hb, hml, hr, hown, hts, hlk, hK, hA, hfr, hlo, hne⟩ := hX
  obtain ⟨hdg, rfl⟩ := hd
  intro H locs la cells slots hP hD hS hl h1 h2
  obtain ⟨C, T, N, hc, hj, hN, hk, hlink, -⟩ := hf
  have hin := (cl_facts ci C T N hc).1
  refine va_get (D := D) (ci := ci) (v := fval al h q ci j) hx hb hts hin hown hK hP q ho.cell hc j hj (hts _ hlink) (fun _ h9 => h9) (fval_at (hN ▸ hj)) hdg (vw_top (v := mI (h q j)) ?_ (k H locs la cells slots hP hD hS hl h1 h2))
  simp only [fval, hk]
  rfl
theorem v_getL (hX : Cx d M X) {idx ci j q : Nat} (hd : Dc M pc (.getfield idx) 3 nx) (hf : FI M.1.cls idx ci j 1) (ho : OB q ci) (k : VW X nx ls (mL (h q j) :: st) h) : VW X pc ls (mA q :: st) h := by
  obtain ⟨p, l, e, R, s, m, args, below, meth, c, al, tc, D, A, Z, rc, rs⟩ := X
  obtain ⟨hx, hb, hml, hr, hown, hts, hlk, hK, hA, hfr, hlo, hne⟩ := hX
  obtain ⟨hdg, rfl⟩ := hd
  intro H locs la cells slots hP hD hS hl h1 h2
  obtain ⟨C, T, N, hc, hj, hN, hk, hlink, -⟩ := hf
  have hin := (cl_facts ci C T N hc).1
  refine va_get (D := D) (ci := ci) (v := fval al h q ci j) hx hb hts hin hown hK hP q ho.cell hc j hj (hts _ hlink) (fun _ h9 => h9) (fval_at (hN ▸ hj)) hdg (vw_top (v := mL (h q j)) ?_ (k H locs la cells slots hP hD hS hl h1 h2))
  simp only [fval, hk]
  rfl
theorem v_getA (hX : Cx d M X) {idx ci j q : Nat} {r : Nat} (hd : Dc M pc (.getfield idx) 3 nx) (hf : FI M.1.cls idx ci j 2) (ho : OB q ci) (hr2 : RF q j = some r) (k : VW X nx ls (mA r :: st) h) : VW X pc ls (mA q :: st) h := by
  obtain ⟨p, l, e, R, s, m, args, below, meth, c, al, tc, D, A, Z, rc, rs⟩ := X
  obtain ⟨hx, hb, hml, hr, hown, hts, hlk, hK, hA, hfr, hlo, hne⟩ := hX
  obtain ⟨hdg, rfl⟩ := hd
  intro H locs la cells slots hP hD hS hl h1 h2
  obtain ⟨C, T, N, hc, hj, hN, hk, hlink, -⟩ := hf
  have hin := (cl_facts ci C T N hc).1
  refine va_get (D := D) (ci := ci) (v := fval al h q ci j) hx hb hts hin hown hK hP q ho.cell hc j hj (hts _ hlink) (fun _ h9 => h9) (fval_at (hN ▸ hj)) hdg (vw_top (v := mA r) ?_ (k H locs la cells slots hP hD hS hl h1 h2))
  simp only [fval, hk]
  rw [hr2]
  rfl
theorem v_putI (hX : Cx d M X) {idx ci j q : Nat} {v : Int} (hd : Dc M pc (.putfield idx) 3 nx) (hf : FI M.1.cls idx ci j 0) (ho : OB q ci) (k : VW X nx ls st (up h q j v)) : VW X pc ls (mI v :: mA q :: st) h := by
  obtain ⟨p, l, e, R, s, m, args, below, meth, c, al, tc, D, A, Z, rc, rs⟩ := X
  obtain ⟨hx, hb, hml, hr, hown, hts, hlk, hK, hA, hfr, hlo, hne⟩ := hX
  obtain ⟨hdg, rfl⟩ := hd
  intro H locs la cells slots hP hD hS hl h1 h2
  obtain ⟨C, T, N, hc, hj, hN, hk, hlink, hq⟩ := hf
  obtain ⟨hin, hnm, ty0, hty⟩ := cl_facts ci C T N hc
  obtain ⟨hfin, hpd⟩ := hq (by decide)
  have hj2 : j < NF ci := hN ▸ hj
  have e1 : (.int (Int32.ofInt v) : Value) = fval al (up h q j v) q ci j := by
    simp [fval, hk, up]
  have e2 : (al q, (Sum.inr (ci, ((List.range (NF ci)).map (fval al h q ci)).set j (.int (Int32.ofInt v))) : va_E)) = (al q, cellE al tc (up h q j v) q) := by
    rw [fval_set hj2 e1]
    simp only [cellE, ho.2]
  refine va_put (D := D) (ci := ci) (v := .int (Int32.ofInt v)) (ty := kty 0) hx hb hts hin ty0 hty hnm hown hK hP hD hS q ho.cell hc j hj (hts _ hlink) (fun _ h9 => h9) hfin hpd rfl rfl (by simpa using hj2) hdg (fun H1 locs1 hP1 hD1 hS1 => ?_)
  rw [e2, WS_set _ rfl] at hP1 hD1
  exact k H1 locs1 la cells slots hP1 hD1 hS1 hl h1 h2
theorem v_putL (hX : Cx d M X) {idx ci j q : Nat} {v : Int} (hd : Dc M pc (.putfield idx) 3 nx) (hf : FI M.1.cls idx ci j 1) (ho : OB q ci) (k : VW X nx ls st (up h q j v)) : VW X pc ls (mL v :: mA q :: st) h := by
  obtain ⟨p, l, e, R, s, m, args, below, meth, c, al, tc, D, A, Z, rc, rs⟩ := X
  obtain ⟨hx, hb, hml, hr, hown, hts, hlk, hK, hA, hfr, hlo, hne⟩ := hX
  obtain ⟨hdg, rfl⟩ := hd
  intro H locs la cells slots hP hD hS hl h1 h2
  obtain ⟨C, T, N, hc, hj, hN, hk, hlink, hq⟩ := hf
  obtain ⟨hin, hnm, ty0, hty⟩ := cl_facts ci C T N hc
  obtain ⟨hfin, hpd⟩ := hq (by decide)
  have hj2 : j < NF ci := hN ▸ hj
  have e1 : (.long (Int64.ofInt v) : Value) = fval al (up h q j v) q ci j := by
    simp [fval, hk, up]
  have e2 : (al q, (Sum.inr (ci, ((List.range (NF ci)).map (fval al h q ci)).set j (.long (Int64.ofInt v))) : va_E)) = (al q, cellE al tc (up h q j v) q) := by
    rw [fval_set hj2 e1]
    simp only [cellE, ho.2]
  refine va_put (D := D) (ci := ci) (v := .long (Int64.ofInt v)) (ty := kty 1) hx hb hts hin ty0 hty hnm hown hK hP hD hS q ho.cell hc j hj (hts _ hlink) (fun _ h9 => h9) hfin hpd rfl rfl (by simpa using hj2) hdg (fun H1 locs1 hP1 hD1 hS1 => ?_)
  rw [e2, WS_set _ rfl] at hP1 hD1
  exact k H1 locs1 la cells slots hP1 hD1 hS1 hl h1 h2
theorem v_putZ (hX : Cx d M X) {idx ci j q : Nat} {v : Int} (hd : Dc M pc (.putfield idx) 3 nx) (hf : FI M.1.cls idx ci j 3) (ho : OB q ci) (hv : v = 0 ∨ v = 1) (k : VW X nx ls st (up h q j v)) : VW X pc ls (mI v :: mA q :: st) h := by
  obtain ⟨p, l, e, R, s, m, args, below, meth, c, al, tc, D, A, Z, rc, rs⟩ := X
  obtain ⟨hx, hb, hml, hr, hown, hts, hlk, hK, hA, hfr, hlo, hne⟩ := hX
  obtain ⟨hdg, rfl⟩ := hd
  intro H locs la cells slots hP hD hS hl h1 h2
  obtain ⟨C, T, N, hc, hj, hN, hk, hlink, hq⟩ := hf
  obtain ⟨hin, hnm, ty0, hty⟩ := cl_facts ci C T N hc
  obtain ⟨hfin, hpd⟩ := hq (by decide)
  have hj2 : j < NF ci := hN ▸ hj
  have e1 : (.int (Int32.ofInt v) : Value) = fval al (up h q j v) q ci j := by
    simp [fval, hk, up]
  have e2 : (al q, (Sum.inr (ci, ((List.range (NF ci)).map (fval al h q ci)).set j (.int (Int32.ofInt v))) : va_E)) = (al q, cellE al tc (up h q j v) q) := by
    rw [fval_set hj2 e1]
    simp only [cellE, ho.2]
  refine va_put (D := D) (ci := ci) (v := .int (Int32.ofInt v)) (ty := kty 3) hx hb hts hin ty0 hty hnm hown hK hP hD hS q ho.cell hc j hj (hts _ hlink) (fun _ h9 => h9) hfin hpd (by rcases hv with rfl | rfl <;> decide) (by rcases hv with rfl | rfl <;> decide) (by simpa using hj2) hdg (fun H1 locs1 hP1 hD1 hS1 => ?_)
  rw [e2, WS_set _ rfl] at hP1 hD1
  exact k H1 locs1 la cells slots hP1 hD1 hS1 hl h1 h2
theorem AR.cell {al : Nat → Nat} {tc : Nat → ClassId} {h : Hp} {k t n : Nat} (a : AR k t n) : (WS al tc h)[k]? = some (al k, cellE al tc h k) := WS_get a.1
theorem TY_0 {tc : Nat → ClassId} : (TY tc)[0]? = some (tc 0, .int) := rfl
theorem TY_1 {tc : Nat → ClassId} : (TY tc)[1]? = some (tc 1, .boolean) := rfl
theorem TY_2 {tc : Nat → ClassId} : (TY tc)[2]? = some (tc 2, .long) := rfl
theorem cell_0 {al : Nat → Nat} {tc : Nat → ClassId} {h : Hp} {k n : Nat} (a : AR k 0 n) : cellE al tc h k = .inl (tc 0, n, .inl (fun j => Int32.ofInt (h k j))) := by simp only [cellE, a.2]
theorem cell_1 {al : Nat → Nat} {tc : Nat → ClassId} {h : Hp} {k n : Nat} (a : AR k 1 n) : cellE al tc h k = .inl (tc 1, n, .inl (fun j => Int32.ofInt (h k j))) := by simp only [cellE, a.2]
theorem cell_2 {al : Nat → Nat} {tc : Nat → ClassId} {h : Hp} {k n : Nat} (a : AR k 2 n) : cellE al tc h k = .inl (tc 2, n, .inr (.inl (fun j => Int64.ofInt (h k j)))) := by simp only [cellE, a.2]
theorem cell_3 {al : Nat → Nat} {tc : Nat → ClassId} {h : Hp} {k n : Nat} (a : AR k 3 n) : cellE al tc h k = .inl (tc 3, n, .inr (.inr (.inr (.inr (fun j => (RF k j).map al))))) := by simp only [cellE, a.2]
theorem cell_4 {al : Nat → Nat} {tc : Nat → ClassId} {h : Hp} {k n : Nat} (a : AR k 4 n) : cellE al tc h k = .inl (tc 4, n, .inr (.inr (.inr (.inr (fun j => (RF k j).map al))))) := by simp only [cellE, a.2]
theorem SH_len : ∀ k, k < KN → ∀ t n, SH k = .inr (t, n) → n < 2147483648 ∧ t < 5 := by
  intro k hk
  have : ∀ k, k < KN → (match SH k with | .inr (t, n) => Nat.blt n 2147483648 && Nat.blt t 5 | _ => true) = true := by decide +kernel
  intro t n e
  have h2 := this k hk
  rw [e] at h2
  simp only [Bool.and_eq_true, Nat.blt_eq] at h2
  exact h2
theorem AR.len {k t n : Nat} (a : AR k t n) : n < 2147483648 := (SH_len k a.1 t n a.2).1
theorem v_iald (hX : Cx d M X) {q n : Nat} {i : Int} (hd : Dc M pc (.iaload) 1 nx) (ha : AR q 0 n) (hi : 0 ≤ i ∧ i < n) (k : VW X nx ls (mI (h q i.toNat) :: st) h) : VW X pc ls (mI i :: mA q :: st) h := by
  obtain ⟨p, l, e, R, s, m, args, below, meth, c, al, tc, D, A, Z, rc, rs⟩ := X
  obtain ⟨hx, hb, hml, hr, hown, hts, hlk, hK, hA, hfr, hlo, hne⟩ := hX
  obtain ⟨hdg, rfl⟩ := hd
  intro H locs la cells slots hP hD hS hl h1 h2
  have hn := ha.len
  have e := oi_clamp hi.1 (by omega)
  have hc : (WS al tc h)[q]? = some (al q, _) := cell_0 (al := al) (tc := tc) (h := h) ha ▸ ha.cell
  refine va_iald hx hb hK hP q 0 hc TY_0 (oi_in hi.1 hi.2 hn) hdg ?_
  rw [e]
  exact k H locs la cells slots hP hD hS hl h1 h2
theorem v_zald (hX : Cx d M X) {q n : Nat} {i : Int} (hd : Dc M pc (.baload) 1 nx) (ha : AR q 1 n) (hi : 0 ≤ i ∧ i < n) (k : VW X nx ls (mI (h q i.toNat) :: st) h) : VW X pc ls (mI i :: mA q :: st) h := by
  obtain ⟨p, l, e, R, s, m, args, below, meth, c, al, tc, D, A, Z, rc, rs⟩ := X
  obtain ⟨hx, hb, hml, hr, hown, hts, hlk, hK, hA, hfr, hlo, hne⟩ := hX
  obtain ⟨hdg, rfl⟩ := hd
  intro H locs la cells slots hP hD hS hl h1 h2
  have hn := ha.len
  have e := oi_clamp hi.1 (by omega)
  have hc : (WS al tc h)[q]? = some (al q, _) := cell_1 (al := al) (tc := tc) (h := h) ha ▸ ha.cell
  refine va_zald hx hb hK hP q 1 hc TY_1 (oi_in hi.1 hi.2 hn) hdg ?_
  rw [e]
  exact k H locs la cells slots hP hD hS hl h1 h2
theorem v_lald (hX : Cx d M X) {q n : Nat} {i : Int} (hd : Dc M pc (.laload) 1 nx) (ha : AR q 2 n) (hi : 0 ≤ i ∧ i < n) (k : VW X nx ls (mL (h q i.toNat) :: st) h) : VW X pc ls (mI i :: mA q :: st) h := by
  obtain ⟨p, l, e, R, s, m, args, below, meth, c, al, tc, D, A, Z, rc, rs⟩ := X
  obtain ⟨hx, hb, hml, hr, hown, hts, hlk, hK, hA, hfr, hlo, hne⟩ := hX
  obtain ⟨hdg, rfl⟩ := hd
  intro H locs la cells slots hP hD hS hl h1 h2
  have hn := ha.len
  have e := oi_clamp hi.1 (by omega)
  have hc : (WS al tc h)[q]? = some (al q, _) := cell_2 (al := al) (tc := tc) (h := h) ha ▸ ha.cell
  refine va_lald hx hb hK hP q 2 hc TY_2 (oi_in hi.1 hi.2 hn) hdg ?_
  rw [e]
  exact k H locs la cells slots hP hD hS hl h1 h2
theorem v_iast (hX : Cx d M X) {q n : Nat} {i v : Int} (hd : Dc M pc (.iastore) 1 nx) (ha : AR q 0 n) (hi : 0 ≤ i ∧ i < n) (k : VW X nx ls st (up h q i.toNat v)) : VW X pc ls (mI v :: mI i :: mA q :: st) h := by
  obtain ⟨p, l, e, R, s, m, args, below, meth, c, al, tc, D, A, Z, rc, rs⟩ := X
  obtain ⟨hx, hb, hml, hr, hown, hts, hlk, hK, hA, hfr, hlo, hne⟩ := hX
  obtain ⟨hdg, rfl⟩ := hd
  intro H locs la cells slots hP hD hS hl h1 h2
  have hn := ha.len
  have e := oi_clamp hi.1 (by omega)
  have hc : (WS al tc h)[q]? = some (al q, _) := cell_0 (al := al) (tc := tc) (h := h) ha ▸ ha.cell
  refine va_iast hx hb hK hP hD hS q 0 hc TY_0 (oi_in hi.1 hi.2 hn) hdg (fun H1 locs1 hP1 hD1 hS1 => ?_)
  have e2 : (Sum.inl (tc 0, n, Sum.inl (upd (fun j => Int32.ofInt (h q j)) i.toNat (Int32.ofInt v))) : va_E) = cellE al tc (up h q i.toNat v) q := by
    rw [cell_0 ha]
    refine congrArg (fun f => (Sum.inl (tc 0, n, Sum.inl f) : va_E)) (funext fun j => ?_)
    simp only [upd, up]
    by_cases hj : j = i.toNat <;> simp [hj]
  rw [e, WS_set _ e2] at hP1 hD1
  exact k H1 locs1 la cells slots hP1 hD1 hS1 hl h1 h2
theorem v_zast (hX : Cx d M X) {q n : Nat} {i v : Int} (hd : Dc M pc (.bastore) 1 nx) (ha : AR q 1 n) (hi : 0 ≤ i ∧ i < n) (hv : v = 0 ∨ v = 1) (k : VW X nx ls st (up h q i.toNat v)) : VW X pc ls (mI v :: mI i :: mA q :: st) h := by
  obtain ⟨p, l, e, R, s, m, args, below, meth, c, al, tc, D, A, Z, rc, rs⟩ := X
  obtain ⟨hx, hb, hml, hr, hown, hts, hlk, hK, hA, hfr, hlo, hne⟩ := hX
  obtain ⟨hdg, rfl⟩ := hd
  intro H locs la cells slots hP hD hS hl h1 h2
  have hn := ha.len
  have e := oi_clamp hi.1 (by omega)
  have hc : (WS al tc h)[q]? = some (al q, _) := cell_1 (al := al) (tc := tc) (h := h) ha ▸ ha.cell
  refine va_zast hx hb hK hP hD hS q 1 hc TY_1 (oi_in hi.1 hi.2 hn) hdg (fun H1 locs1 hP1 hD1 hS1 => ?_)
  have e3 : vp_nar .boolean (Int32.ofInt v) = Int32.ofInt v := by rcases hv with rfl | rfl <;> decide
  rw [e3] at hP1 hD1
  have e2 : (Sum.inl (tc 1, n, Sum.inl (upd (fun j => Int32.ofInt (h q j)) i.toNat (Int32.ofInt v))) : va_E) = cellE al tc (up h q i.toNat v) q := by
    rw [cell_1 ha]
    refine congrArg (fun f => (Sum.inl (tc 1, n, Sum.inl f) : va_E)) (funext fun j => ?_)
    simp only [upd, up]
    by_cases hj : j = i.toNat <;> simp [hj]
  rw [e, WS_set _ e2] at hP1 hD1
  exact k H1 locs1 la cells slots hP1 hD1 hS1 hl h1 h2
theorem v_last (hX : Cx d M X) {q n : Nat} {i v : Int} (hd : Dc M pc (.lastore) 1 nx) (ha : AR q 2 n) (hi : 0 ≤ i ∧ i < n) (k : VW X nx ls st (up h q i.toNat v)) : VW X pc ls (mL v :: mI i :: mA q :: st) h := by
  obtain ⟨p, l, e, R, s, m, args, below, meth, c, al, tc, D, A, Z, rc, rs⟩ := X
  obtain ⟨hx, hb, hml, hr, hown, hts, hlk, hK, hA, hfr, hlo, hne⟩ := hX
  obtain ⟨hdg, rfl⟩ := hd
  intro H locs la cells slots hP hD hS hl h1 h2
  have hn := ha.len
  have e := oi_clamp hi.1 (by omega)
  have hc : (WS al tc h)[q]? = some (al q, _) := cell_2 (al := al) (tc := tc) (h := h) ha ▸ ha.cell
  refine va_last hx hb hK hP hD hS q 2 hc TY_2 (oi_in hi.1 hi.2 hn) hdg (fun H1 locs1 hP1 hD1 hS1 => ?_)
  have e2 : (Sum.inl (tc 2, n, Sum.inr (Sum.inl (vp_updL (fun j => Int64.ofInt (h q j)) i.toNat (Int64.ofInt v)))) : va_E) = cellE al tc (up h q i.toNat v) q := by
    rw [cell_2 ha]
    refine congrArg (fun f => (Sum.inl (tc 2, n, Sum.inr (Sum.inl f)) : va_E)) (funext fun j => ?_)
    simp only [vp_updL, up]
    by_cases hj : j = i.toNat <;> simp [hj]
  rw [e, WS_set _ e2] at hP1 hD1
  exact k H1 locs1 la cells slots hP1 hD1 hS1 hl h1 h2
theorem v_aaldP (hX : Cx d M X) {q n r : Nat} {i : Int} (hd : Dc M pc (.aaload) 1 nx) (ha : AR q 3 n) (hi : 0 ≤ i ∧ i < n) (hr2 : RF q i.toNat = some r) (k : VW X nx ls (mA r :: st) h) : VW X pc ls (mI i :: mA q :: st) h := by
  obtain ⟨p, l, e, R, s, m, args, below, meth, c, al, tc, D, A, Z, rc, rs⟩ := X
  obtain ⟨hx, hb, hml, hr, hown, hts, hlk, hK, hA, hfr, hlo, hne⟩ := hX
  obtain ⟨hdg, rfl⟩ := hd
  intro H locs la cells slots hP hD hS hl h1 h2
  have hn := ha.len
  have e := oi_clamp hi.1 (by omega)
  have hc : (WS al tc h)[q]? = some (al q, _) := cell_3 (al := al) (tc := tc) (h := h) ha ▸ ha.cell
  refine va_aldq (C := "WishSharer$Pupil") hx hb hK hP q 3 hc rfl (oi_in hi.1 hi.2 hn) hdg ?_
  rw [e, hr2]
  exact k H locs la cells slots hP hD hS hl h1 h2
theorem v_aaldQ (hX : Cx d M X) {q n r : Nat} {i : Int} (hd : Dc M pc (.aaload) 1 nx) (ha : AR q 4 n) (hi : 0 ≤ i ∧ i < n) (hr2 : RF q i.toNat = some r) (k : VW X nx ls (mA r :: st) h) : VW X pc ls (mI i :: mA q :: st) h := by
  obtain ⟨p, l, e, R, s, m, args, below, meth, c, al, tc, D, A, Z, rc, rs⟩ := X
  obtain ⟨hx, hb, hml, hr, hown, hts, hlk, hK, hA, hfr, hlo, hne⟩ := hX
  obtain ⟨hdg, rfl⟩ := hd
  intro H locs la cells slots hP hD hS hl h1 h2
  have hn := ha.len
  have e := oi_clamp hi.1 (by omega)
  have hc : (WS al tc h)[q]? = some (al q, _) := cell_4 (al := al) (tc := tc) (h := h) ha ▸ ha.cell
  refine va_aldq (C := "WishSharer$Project") hx hb hK hP q 4 hc rfl (oi_in hi.1 hi.2 hn) hdg ?_
  rw [e, hr2]
  exact k H locs la cells slots hP hD hS hl h1 h2
theorem v_alen (hX : Cx d M X) {q t n : Nat} (hd : Dc M pc (.arraylength) 1 nx) (ha : AR q t n) (k : VW X nx ls (mI n :: st) h) : VW X pc ls (mA q :: st) h := by
  obtain ⟨p, l, e, R, s, m, args, below, meth, c, al, tc, D, A, Z, rc, rs⟩ := X
  obtain ⟨hx, hb, hml, hr, hown, hts, hlk, hK, hA, hfr, hlo, hne⟩ := hX
  obtain ⟨hdg, rfl⟩ := hd
  intro H locs la cells slots hP hD hS hl h1 h2
  have ht := (SH_len q ha.1 t n ha.2).2
  have hc : ∃ (x : vp_A) (ty : FieldType), (WS al tc h)[q]? = some (al q, .inl (tc t, x)) ∧ (TY tc)[t]? = some (tc t, ty) ∧ x.1 = n := by
    rw [WS_get ha.1]
    simp only [cellE, ha.2]
    match t, ht with
    | 0, _ => exact ⟨_, _, rfl, rfl, rfl⟩
    | 1, _ => exact ⟨_, _, rfl, rfl, rfl⟩
    | 2, _ => exact ⟨_, _, rfl, rfl, rfl⟩
    | 3, _ => exact ⟨_, _, rfl, rfl, rfl⟩
    | 4, _ => exact ⟨_, _, rfl, rfl, rfl⟩
  obtain ⟨x, ty, hc, hty, hx1⟩ := hc
  refine va_alen hx hb hK hP q t hc hty (v := Int32.ofInt n) (by rw [hx1]; rfl) hdg (k H locs la cells slots hP hD hS hl h1 h2)
theorem v_ireturn (hX : Cx d M X) {Q : Option MV → Hp → Prop} {a : Int} (hR : Rt Q X) (hd : Dc M pc (.ireturn) 1 nx) (ht : M.2.2.2.1 = some .int) (hq : Q (some (mI a)) h) : VW X pc ls [mI a] h := by
  obtain ⟨p, l, e, R, s, m, args, below, meth, c, al, tc, D, A, Z, rc, rs⟩ := X
  obtain ⟨hx, hb, hml, hr, hown, hts, hlk, hK, hA, hfr, hlo, hne⟩ := hX
  obtain ⟨hdg, rfl⟩ := hd
  intro H locs la cells slots hP hD hS hl h1 h2
  subst hR
  refine W.widen (k := R.cells) (n := R.slots) (by omega) (by omega) ?_
  exact W.iret (v := Int32.ofInt a) hx hb (hr.trans ht) (fun t ht2 hW => ⟨⟨(some (mI a)), h, rfl, hq, by rw [ht2]; exact hP, va_K.moved hW.alike hK, hD⟩, hS.F ht2⟩) hS.2.2 hdg hlk
theorem v_zreturn (hX : Cx d M X) {Q : Option MV → Hp → Prop} {a : Int} (hR : Rt Q X) (hd : Dc M pc (.ireturn) 1 nx) (ht : M.2.2.2.1 = some .boolean) (hv : a = 0 ∨ a = 1) (hq : Q (some (mI a)) h) : VW X pc ls [mI a] h := by
  obtain ⟨p, l, e, R, s, m, args, below, meth, c, al, tc, D, A, Z, rc, rs⟩ := X
  obtain ⟨hx, hb, hml, hr, hown, hts, hlk, hK, hA, hfr, hlo, hne⟩ := hX
  obtain ⟨hdg, rfl⟩ := hd
  intro H locs la cells slots hP hD hS hl h1 h2
  subst hR
  refine W.widen (k := R.cells) (n := R.slots) (by omega) (by omega) ?_
  exact W.zret (v := Int32.ofInt a) (ty := .boolean) hx hb (hr.trans ht) (by rcases hv with rfl | rfl <;> decide) (fun t ht2 hW => ⟨⟨(some (mI a)), h, rfl, hq, by rw [ht2]; exact hP, va_K.moved hW.alike hK, hD⟩, hS.F ht2⟩) hS.2.2 hdg hlk
theorem v_lreturn (hX : Cx d M X) {Q : Option MV → Hp → Prop} {a : Int} (hR : Rt Q X) (hd : Dc M pc (.lreturn) 1 nx) (ht : M.2.2.2.1 = some .long) (hq : Q (some (mL a)) h) : VW X pc ls [mL a] h := by
  obtain ⟨p, l, e, R, s, m, args, below, meth, c, al, tc, D, A, Z, rc, rs⟩ := X
  obtain ⟨hx, hb, hml, hr, hown, hts, hlk, hK, hA, hfr, hlo, hne⟩ := hX
  obtain ⟨hdg, rfl⟩ := hd
  intro H locs la cells slots hP hD hS hl h1 h2
  subst hR
  refine W.widen (k := R.cells) (n := R.slots) (by omega) (by omega) ?_
  exact W.lret (v := Int64.ofInt a) hx hb (hr.trans ht) (fun t ht2 hW => ⟨⟨(some (mL a)), h, rfl, hq, by rw [ht2]; exact hP, va_K.moved hW.alike hK, hD⟩, hS.F ht2⟩) hS.2.2 hdg hlk
theorem v_return (hX : Cx d M X) {Q : Option MV → Hp → Prop} (hR : Rt Q X) (hd : Dc M pc (.return_) 1 nx) (ht : M.2.2.2.1 = none) (hq : Q none h) : VW X pc ls [] h := by
  obtain ⟨p, l, e, R, s, m, args, below, meth, c, al, tc, D, A, Z, rc, rs⟩ := X
  obtain ⟨hx, hb, hml, hr, hown, hts, hlk, hK, hA, hfr, hlo, hne⟩ := hX
  obtain ⟨hdg, rfl⟩ := hd
  intro H locs la cells slots hP hD hS hl h1 h2
  subst hR
  refine W.widen (k := R.cells) (n := R.slots) (by omega) (by omega) ?_
  exact W.vret hx hb (hr.trans ht) (fun t ht2 hW => ⟨⟨none, h, rfl, hq, by rw [ht2]; exact hP, va_K.moved hW.alike hK, hD⟩, hS.F ht2⟩) hS.2.2 hdg hlk
theorem v_areturn (hX : Cx d M X) {Q : Option MV → Hp → Prop} {a : Nat} {C : String} (hR : Rt Q X) (hd : Dc M pc (.areturn) 1 nx) (ht : M.2.2.2.1 = some (.object C)) (hq : Q (some (mA a)) h) : VW X pc ls [mA a] h := by
  obtain ⟨p, l, e, R, s, m, args, below, meth, c, al, tc, D, A, Z, rc, rs⟩ := X
  obtain ⟨hx, hb, hml, hr, hown, hts, hlk, hK, hA, hfr, hlo, hne⟩ := hX
  obtain ⟨hdg, rfl⟩ := hd
  intro H locs la cells slots hP hD hS hl h1 h2
  subst hR
  refine W.widen (k := R.cells) (n := R.slots) (by omega) (by omega) ?_
  exact W.aret (v := .ref (al a)) hx hb (hr.trans ht) (Or.inl ⟨C, rfl⟩) (Or.inr ⟨_, rfl⟩) (fun t ht2 hW => ⟨⟨(some (mA a)), h, rfl, hq, by rw [ht2]; exact hP, va_K.moved hW.alike hK, hD⟩, hS.F ht2⟩) hS.2.2 hdg hlk
theorem v_areturnN (hX : Cx d M X) {Q : Option MV → Hp → Prop} {C : String} (hR : Rt Q X) (hd : Dc M pc (.areturn) 1 nx) (ht : M.2.2.2.1 = some (.object C)) (hq : Q (some mN) h) : VW X pc ls [mN] h := by
  obtain ⟨p, l, e, R, s, m, args, below, meth, c, al, tc, D, A, Z, rc, rs⟩ := X
  obtain ⟨hx, hb, hml, hr, hown, hts, hlk, hK, hA, hfr, hlo, hne⟩ := hX
  obtain ⟨hdg, rfl⟩ := hd
  intro H locs la cells slots hP hD hS hl h1 h2
  subst hR
  refine W.widen (k := R.cells) (n := R.slots) (by omega) (by omega) ?_
  exact W.aret (v := .null) hx hb (hr.trans ht) (Or.inl ⟨C, rfl⟩) (Or.inl rfl) (fun t ht2 hW => ⟨⟨(some mN), h, rfl, hq, by rw [ht2]; exact hP, va_K.moved hW.alike hK, hD⟩, hS.F ht2⟩) hS.2.2 hdg hlk
end VHEAP
