section VRULES
variable {d : Nat} {M : MT} {X : CT} {pc nx : Nat} {ls : List (Option MV)} {st : List MV} {h : Hp}
theorem vw_top {p : Program} {l : Launch} {e : Env} {R : Room} {s : State} {m : MethodId} {args : Array Value} {below : List Frame} {meth : Method} {c : Code} {H : Heap} {locs : List Loc} {cells slots : Nat} {Z : State → Prop} {la : Array Slot} {al : Nat → Nat} {v : MV} {w : Value} (e1 : conc al v = w) (k : W p l e R s m args below meth c H locs cells slots Z (F0 m pc la (List.map (conc al) (v :: st)))) : W p l e R s m args below meth c H locs cells slots Z (F0 m pc la (w :: List.map (conc al) st)) := e1 ▸ k
theorem v_iconst (hX : Cx d M X) {n : Int} (hd : Dc M pc (.iconst n) 1 nx) (k : VW X nx ls (mI n :: st) h) : VW X pc ls (st) h := by
  obtain ⟨p, l, e, R, s, m, args, below, meth, c, al, tc, D, A, Z, rc, rs⟩ := X
  obtain ⟨hx, hb, hml, hr, hown, hts, hlk, hK, hA, hfr, hlo, hne⟩ := hX
  obtain ⟨hdg, rfl⟩ := hd
  intro H locs la cells slots hP hD hS hl h1 h2
  exact lv_iconst hx hb hdg rfl (k H locs la cells slots hP hD hS hl h1 h2)
theorem v_bipush (hX : Cx d M X) {n : Int} (hd : Dc M pc (.bipush n) 2 nx) (hv : (Int8.ofInt n).toInt32 = Int32.ofInt n) (k : VW X nx ls (mI n :: st) h) : VW X pc ls (st) h := by
  obtain ⟨p, l, e, R, s, m, args, below, meth, c, al, tc, D, A, Z, rc, rs⟩ := X
  obtain ⟨hx, hb, hml, hr, hown, hts, hlk, hK, hA, hfr, hlo, hne⟩ := hX
  obtain ⟨hdg, rfl⟩ := hd
  intro H locs la cells slots hP hD hS hl h1 h2
  exact lv_bipush hx hb hdg hv (k H locs la cells slots hP hD hS hl h1 h2)
theorem v_sipush (hX : Cx d M X) {n : Int} (hd : Dc M pc (.sipush n) 3 nx) (hv : (Int16.ofInt n).toInt32 = Int32.ofInt n) (k : VW X nx ls (mI n :: st) h) : VW X pc ls (st) h := by
  obtain ⟨p, l, e, R, s, m, args, below, meth, c, al, tc, D, A, Z, rc, rs⟩ := X
  obtain ⟨hx, hb, hml, hr, hown, hts, hlk, hK, hA, hfr, hlo, hne⟩ := hX
  obtain ⟨hdg, rfl⟩ := hd
  intro H locs la cells slots hP hD hS hl h1 h2
  exact lv_sipush hx hb hdg hv (k H locs la cells slots hP hD hS hl h1 h2)
theorem v_lconst (hX : Cx d M X) {n : Fin 2} {z : Int} (hd : Dc M pc (.lconst n) 1 nx) (hv : Int64.ofNat (n : Nat) = Int64.ofInt z) (k : VW X nx ls (mL z :: st) h) : VW X pc ls (st) h := by
  obtain ⟨p, l, e, R, s, m, args, below, meth, c, al, tc, D, A, Z, rc, rs⟩ := X
  obtain ⟨hx, hb, hml, hr, hown, hts, hlk, hK, hA, hfr, hlo, hne⟩ := hX
  obtain ⟨hdg, rfl⟩ := hd
  intro H locs la cells slots hP hD hS hl h1 h2
  exact lv_lconst hx hb hdg hv (k H locs la cells slots hP hD hS hl h1 h2)
theorem v_ldc (hX : Cx d M X) {ix : Nat} {z : Int} {w : Int32} (hd : Dc M pc (.ldc ix) 2 nx) (hc : Cond.constant M.1.cls ix w ∈ TB) (hv : Int32.ofInt z = w) (k : VW X nx ls (mI z :: st) h) : VW X pc ls (st) h := by
  obtain ⟨p, l, e, R, s, m, args, below, meth, c, al, tc, D, A, Z, rc, rs⟩ := X
  obtain ⟨hx, hb, hml, hr, hown, hts, hlk, hK, hA, hfr, hlo, hne⟩ := hX
  obtain ⟨hdg, rfl⟩ := hd
  intro H locs la cells slots hP hD hS hl h1 h2
  exact lv_ldc hx hb hown (hts _ hc) hdg (vw_top (v := mI z) (by rw [← hv]; rfl) (k H locs la cells slots hP hD hS hl h1 h2))
theorem v_ldcw (hX : Cx d M X) {ix : Nat} {z : Int} {w : Int32} (hd : Dc M pc (.ldc_w ix) 3 nx) (hc : Cond.constant M.1.cls ix w ∈ TB) (hv : Int32.ofInt z = w) (k : VW X nx ls (mI z :: st) h) : VW X pc ls (st) h := by
  obtain ⟨p, l, e, R, s, m, args, below, meth, c, al, tc, D, A, Z, rc, rs⟩ := X
  obtain ⟨hx, hb, hml, hr, hown, hts, hlk, hK, hA, hfr, hlo, hne⟩ := hX
  obtain ⟨hdg, rfl⟩ := hd
  intro H locs la cells slots hP hD hS hl h1 h2
  exact lv_ldcw hx hb hown (hts _ hc) hdg (vw_top (v := mI z) (by rw [← hv]; rfl) (k H locs la cells slots hP hD hS hl h1 h2))
theorem v_ldc2 (hX : Cx d M X) {ix : Nat} {z : Int} {w : Int64} (hd : Dc M pc (.ldc2_w ix) 3 nx) (hc : Cond.constantLong M.1.cls ix w ∈ TB) (hv : Int64.ofInt z = w) (k : VW X nx ls (mL z :: st) h) : VW X pc ls (st) h := by
  obtain ⟨p, l, e, R, s, m, args, below, meth, c, al, tc, D, A, Z, rc, rs⟩ := X
  obtain ⟨hx, hb, hml, hr, hown, hts, hlk, hK, hA, hfr, hlo, hne⟩ := hX
  obtain ⟨hdg, rfl⟩ := hd
  intro H locs la cells slots hP hD hS hl h1 h2
  exact lv_ldc2 hx hb hown (hts _ hc) hdg (vw_top (v := mL z) (by rw [← hv]; rfl) (k H locs la cells slots hP hD hS hl h1 h2))
theorem v_null (hX : Cx d M X)  (hd : Dc M pc (.aconst_null) 1 nx) (k : VW X nx ls (mN :: st) h) : VW X pc ls (st) h := by
  obtain ⟨p, l, e, R, s, m, args, below, meth, c, al, tc, D, A, Z, rc, rs⟩ := X
  obtain ⟨hx, hb, hml, hr, hown, hts, hlk, hK, hA, hfr, hlo, hne⟩ := hX
  obtain ⟨hdg, rfl⟩ := hd
  intro H locs la cells slots hP hD hS hl h1 h2
  exact lv_null hx hb hdg (k H locs la cells slots hP hD hS hl h1 h2)
theorem v_iload_n (hX : Cx d M X) {i : Fin 4} {a : Int} (hd : Dc M pc (.iload_n i) 1 nx) (hv : ls[(i : Nat)]? = some (some (mI a))) (k : VW X nx ls (mI a :: st) h) : VW X pc ls (st) h := by
  obtain ⟨p, l, e, R, s, m, args, below, meth, c, al, tc, D, A, Z, rc, rs⟩ := X
  obtain ⟨hx, hb, hml, hr, hown, hts, hlk, hK, hA, hfr, hlo, hne⟩ := hX
  obtain ⟨hdg, rfl⟩ := hd
  intro H locs la cells slots hP hD hS hl h1 h2
  exact lv_iload_n hx hb hdg rfl (hl.2.2 _ _ hv) (k H locs la cells slots hP hD hS hl h1 h2)
theorem v_iload (hX : Cx d M X) {i : Nat} {a : Int} (hd : Dc M pc (.iload i) 2 nx) (hv : ls[i]? = some (some (mI a))) (k : VW X nx ls (mI a :: st) h) : VW X pc ls (st) h := by
  obtain ⟨p, l, e, R, s, m, args, below, meth, c, al, tc, D, A, Z, rc, rs⟩ := X
  obtain ⟨hx, hb, hml, hr, hown, hts, hlk, hK, hA, hfr, hlo, hne⟩ := hX
  obtain ⟨hdg, rfl⟩ := hd
  intro H locs la cells slots hP hD hS hl h1 h2
  exact lv_iload hx hb hdg (hl.2.2 _ _ hv) (k H locs la cells slots hP hD hS hl h1 h2)
theorem v_lload_n (hX : Cx d M X) {i : Fin 4} {a : Int} (hd : Dc M pc (.lload_n i) 1 nx) (hv : ls[(i : Nat)]? = some (some (mL a))) (k : VW X nx ls (mL a :: st) h) : VW X pc ls (st) h := by
  obtain ⟨p, l, e, R, s, m, args, below, meth, c, al, tc, D, A, Z, rc, rs⟩ := X
  obtain ⟨hx, hb, hml, hr, hown, hts, hlk, hK, hA, hfr, hlo, hne⟩ := hX
  obtain ⟨hdg, rfl⟩ := hd
  intro H locs la cells slots hP hD hS hl h1 h2
  exact lv_lload_n hx hb hdg rfl (hl.2.2 _ _ hv) (k H locs la cells slots hP hD hS hl h1 h2)
theorem v_lload (hX : Cx d M X) {i : Nat} {a : Int} (hd : Dc M pc (.lload i) 2 nx) (hv : ls[i]? = some (some (mL a))) (k : VW X nx ls (mL a :: st) h) : VW X pc ls (st) h := by
  obtain ⟨p, l, e, R, s, m, args, below, meth, c, al, tc, D, A, Z, rc, rs⟩ := X
  obtain ⟨hx, hb, hml, hr, hown, hts, hlk, hK, hA, hfr, hlo, hne⟩ := hX
  obtain ⟨hdg, rfl⟩ := hd
  intro H locs la cells slots hP hD hS hl h1 h2
  exact lv_lload hx hb hdg (hl.2.2 _ _ hv) (k H locs la cells slots hP hD hS hl h1 h2)
theorem v_aload_n (hX : Cx d M X) {i : Fin 4} {a : Nat} (hd : Dc M pc (.aload_n i) 1 nx) (hv : ls[(i : Nat)]? = some (some (mA a))) (k : VW X nx ls (mA a :: st) h) : VW X pc ls (st) h := by
  obtain ⟨p, l, e, R, s, m, args, below, meth, c, al, tc, D, A, Z, rc, rs⟩ := X
  obtain ⟨hx, hb, hml, hr, hown, hts, hlk, hK, hA, hfr, hlo, hne⟩ := hX
  obtain ⟨hdg, rfl⟩ := hd
  intro H locs la cells slots hP hD hS hl h1 h2
  exact lv_aload_n hx hb hdg rfl (hl.2.2 _ _ hv) (k H locs la cells slots hP hD hS hl h1 h2)
theorem v_aload (hX : Cx d M X) {i : Nat} {a : Nat} (hd : Dc M pc (.aload i) 2 nx) (hv : ls[i]? = some (some (mA a))) (k : VW X nx ls (mA a :: st) h) : VW X pc ls (st) h := by
  obtain ⟨p, l, e, R, s, m, args, below, meth, c, al, tc, D, A, Z, rc, rs⟩ := X
  obtain ⟨hx, hb, hml, hr, hown, hts, hlk, hK, hA, hfr, hlo, hne⟩ := hX
  obtain ⟨hdg, rfl⟩ := hd
  intro H locs la cells slots hP hD hS hl h1 h2
  exact lv_aload hx hb hdg (hl.2.2 _ _ hv) (k H locs la cells slots hP hD hS hl h1 h2)
theorem v_aload_nN (hX : Cx d M X) {i : Fin 4} (hd : Dc M pc (.aload_n i) 1 nx) (hv : ls[(i : Nat)]? = some (some mN)) (k : VW X nx ls (mN :: st) h) : VW X pc ls (st) h := by
  obtain ⟨p, l, e, R, s, m, args, below, meth, c, al, tc, D, A, Z, rc, rs⟩ := X
  obtain ⟨hx, hb, hml, hr, hown, hts, hlk, hK, hA, hfr, hlo, hne⟩ := hX
  obtain ⟨hdg, rfl⟩ := hd
  intro H locs la cells slots hP hD hS hl h1 h2
  exact lv_aload_nN hx hb hdg rfl (hl.2.2 _ _ hv) (k H locs la cells slots hP hD hS hl h1 h2)
theorem v_aloadN (hX : Cx d M X) {i : Nat} (hd : Dc M pc (.aload i) 2 nx) (hv : ls[i]? = some (some mN)) (k : VW X nx ls (mN :: st) h) : VW X pc ls (st) h := by
  obtain ⟨p, l, e, R, s, m, args, below, meth, c, al, tc, D, A, Z, rc, rs⟩ := X
  obtain ⟨hx, hb, hml, hr, hown, hts, hlk, hK, hA, hfr, hlo, hne⟩ := hX
  obtain ⟨hdg, rfl⟩ := hd
  intro H locs la cells slots hP hD hS hl h1 h2
  exact lv_aloadN hx hb hdg (hl.2.2 _ _ hv) (k H locs la cells slots hP hD hS hl h1 h2)
theorem v_istore_n (hX : Cx d M X) {i : Fin 4} {a : Int} (hd : Dc M pc (.istore_n i) 1 nx) (hn : (Nat.ble ((i : Nat) + 1) M.2.2.1) = true) (hg : nlg ls (i : Nat) = true) (k : VW X nx (ls.set (i : Nat) (some (mI a))) st h) : VW X pc ls (mI a :: st) h := by
  obtain ⟨p, l, e, R, s, m, args, below, meth, c, al, tc, D, A, Z, rc, rs⟩ := X
  obtain ⟨hx, hb, hml, hr, hown, hts, hlk, hK, hA, hfr, hlo, hne⟩ := hX
  obtain ⟨hdg, rfl⟩ := hd
  intro H locs la cells slots hP hD hS hl h1 h2
  exact lv_istore_n hx hb hdg rfl hl.has (by rw [hml]; exact Nat.le_of_ble_eq_true hn) rfl (fun la2 hl2 => k H locs la2 cells slots hP hD hS (LH.store hg hl2) h1 h2)
theorem v_istore (hX : Cx d M X) {i : Nat} {a : Int} (hd : Dc M pc (.istore i) 2 nx) (hn : (Nat.ble (i + 1) M.2.2.1) = true) (hg : nlg ls i = true) (k : VW X nx (ls.set i (some (mI a))) st h) : VW X pc ls (mI a :: st) h := by
  obtain ⟨p, l, e, R, s, m, args, below, meth, c, al, tc, D, A, Z, rc, rs⟩ := X
  obtain ⟨hx, hb, hml, hr, hown, hts, hlk, hK, hA, hfr, hlo, hne⟩ := hX
  obtain ⟨hdg, rfl⟩ := hd
  intro H locs la cells slots hP hD hS hl h1 h2
  exact lv_istore hx hb hdg hl.has (by rw [hml]; exact Nat.le_of_ble_eq_true hn) rfl (fun la2 hl2 => k H locs la2 cells slots hP hD hS (LH.store hg hl2) h1 h2)
theorem v_astore_n (hX : Cx d M X) {i : Fin 4} {a : Nat} (hd : Dc M pc (.astore_n i) 1 nx) (hn : (Nat.ble ((i : Nat) + 1) M.2.2.1) = true) (hg : nlg ls (i : Nat) = true) (k : VW X nx (ls.set (i : Nat) (some (mA a))) st h) : VW X pc ls (mA a :: st) h := by
  obtain ⟨p, l, e, R, s, m, args, below, meth, c, al, tc, D, A, Z, rc, rs⟩ := X
  obtain ⟨hx, hb, hml, hr, hown, hts, hlk, hK, hA, hfr, hlo, hne⟩ := hX
  obtain ⟨hdg, rfl⟩ := hd
  intro H locs la cells slots hP hD hS hl h1 h2
  exact lv_astore_n hx hb hdg rfl hl.has (by rw [hml]; exact Nat.le_of_ble_eq_true hn) rfl (fun la2 hl2 => k H locs la2 cells slots hP hD hS (LH.store hg hl2) h1 h2)
theorem v_astore (hX : Cx d M X) {i : Nat} {a : Nat} (hd : Dc M pc (.astore i) 2 nx) (hn : (Nat.ble (i + 1) M.2.2.1) = true) (hg : nlg ls i = true) (k : VW X nx (ls.set i (some (mA a))) st h) : VW X pc ls (mA a :: st) h := by
  obtain ⟨p, l, e, R, s, m, args, below, meth, c, al, tc, D, A, Z, rc, rs⟩ := X
  obtain ⟨hx, hb, hml, hr, hown, hts, hlk, hK, hA, hfr, hlo, hne⟩ := hX
  obtain ⟨hdg, rfl⟩ := hd
  intro H locs la cells slots hP hD hS hl h1 h2
  exact lv_astore hx hb hdg hl.has (by rw [hml]; exact Nat.le_of_ble_eq_true hn) rfl (fun la2 hl2 => k H locs la2 cells slots hP hD hS (LH.store hg hl2) h1 h2)
theorem v_astore_nN (hX : Cx d M X) {i : Fin 4}  (hd : Dc M pc (.astore_n i) 1 nx) (hn : (Nat.ble ((i : Nat) + 1) M.2.2.1) = true) (hg : nlg ls (i : Nat) = true) (k : VW X nx (ls.set (i : Nat) (some (mN))) st h) : VW X pc ls (mN :: st) h := by
  obtain ⟨p, l, e, R, s, m, args, below, meth, c, al, tc, D, A, Z, rc, rs⟩ := X
  obtain ⟨hx, hb, hml, hr, hown, hts, hlk, hK, hA, hfr, hlo, hne⟩ := hX
  obtain ⟨hdg, rfl⟩ := hd
  intro H locs la cells slots hP hD hS hl h1 h2
  exact lv_astore_nN hx hb hdg rfl hl.has (by rw [hml]; exact Nat.le_of_ble_eq_true hn) rfl (fun la2 hl2 => k H locs la2 cells slots hP hD hS (LH.store hg hl2) h1 h2)
theorem v_astoreN (hX : Cx d M X) {i : Nat}  (hd : Dc M pc (.astore i) 2 nx) (hn : (Nat.ble (i + 1) M.2.2.1) = true) (hg : nlg ls i = true) (k : VW X nx (ls.set i (some (mN))) st h) : VW X pc ls (mN :: st) h := by
  obtain ⟨p, l, e, R, s, m, args, below, meth, c, al, tc, D, A, Z, rc, rs⟩ := X
  obtain ⟨hx, hb, hml, hr, hown, hts, hlk, hK, hA, hfr, hlo, hne⟩ := hX
  obtain ⟨hdg, rfl⟩ := hd
  intro H locs la cells slots hP hD hS hl h1 h2
  exact lv_astoreN hx hb hdg hl.has (by rw [hml]; exact Nat.le_of_ble_eq_true hn) rfl (fun la2 hl2 => k H locs la2 cells slots hP hD hS (LH.store hg hl2) h1 h2)
theorem v_lstore_n (hX : Cx d M X) {i : Fin 4} {a : Int} (hd : Dc M pc (.lstore_n i) 1 nx) (hn : (Nat.ble ((i : Nat) + 1 + 1) M.2.2.1) = true) (hg : nlg ls (i : Nat) = true) (k : VW X nx ((ls.set (i : Nat) (some (mL a))).set ((i : Nat) + 1) none) st h) : VW X pc ls (mL a :: st) h := by
  obtain ⟨p, l, e, R, s, m, args, below, meth, c, al, tc, D, A, Z, rc, rs⟩ := X
  obtain ⟨hx, hb, hml, hr, hown, hts, hlk, hK, hA, hfr, hlo, hne⟩ := hX
  obtain ⟨hdg, rfl⟩ := hd
  intro H locs la cells slots hP hD hS hl h1 h2
  exact lv_lstore_n hx hb hdg rfl hl.has (by rw [hml]; exact Nat.le_of_ble_eq_true hn) rfl (fun la2 hl2 => k H locs la2 cells slots hP hD hS (LH.store2 hg hl2) h1 h2)
theorem v_lstore (hX : Cx d M X) {i : Nat} {a : Int} (hd : Dc M pc (.lstore i) 2 nx) (hn : (Nat.ble (i + 1 + 1) M.2.2.1) = true) (hg : nlg ls i = true) (k : VW X nx ((ls.set i (some (mL a))).set (i + 1) none) st h) : VW X pc ls (mL a :: st) h := by
  obtain ⟨p, l, e, R, s, m, args, below, meth, c, al, tc, D, A, Z, rc, rs⟩ := X
  obtain ⟨hx, hb, hml, hr, hown, hts, hlk, hK, hA, hfr, hlo, hne⟩ := hX
  obtain ⟨hdg, rfl⟩ := hd
  intro H locs la cells slots hP hD hS hl h1 h2
  exact lv_lstore hx hb hdg hl.has (by rw [hml]; exact Nat.le_of_ble_eq_true hn) rfl (fun la2 hl2 => k H locs la2 cells slots hP hD hS (LH.store2 hg hl2) h1 h2)
theorem v_iinc (hX : Cx d M X) {i : Nat} {n a : Int} (hd : Dc M pc (.iinc i n) 3 nx) (hv : ls[i]? = some (some (mI a))) (hn : (Nat.ble (i + 1) M.2.2.1) = true) (hg : nlg ls i = true) (k : VW X nx (ls.set i (some (mI (a + n)))) st h) : VW X pc ls st h := by
  obtain ⟨p, l, e, R, s, m, args, below, meth, c, al, tc, D, A, Z, rc, rs⟩ := X
  obtain ⟨hx, hb, hml, hr, hown, hts, hlk, hK, hA, hfr, hlo, hne⟩ := hX
  obtain ⟨hdg, rfl⟩ := hd
  intro H locs la cells slots hP hD hS hl h1 h2
  have hh : lv_has la c.maxLocals ((i, Value.int (Int32.ofInt a)) :: LL al ls) := ⟨hl.1, hl.2.1, fun q hq => (List.mem_cons.mp hq).elim (fun e => by subst e; exact hl.2.2 i _ hv) (fun h => hl.has.2.2 q h)⟩
  refine lv_iinc (k := 0) (v := Int32.ofInt (a + n)) hx hb hdg hh rfl (Int32.ofInt_add a n).symm (by rw [hml]; exact Nat.le_of_ble_eq_true hn) rfl (fun la2 hl2 => k H locs la2 cells slots hP hD hS (LH.store hg ?_) h1 h2)
  exact ⟨hl2.1, hl2.2.1, fun q hq => hl2.2.2 q (by
    rcases List.mem_cons.mp hq with e | e
    · rw [e]; exact List.mem_cons_self
    · refine List.mem_cons_of_mem _ ?_
      rw [List.filter_cons]
      simp only [beq_self_eq_true, Bool.not_true, Bool.false_and]
      exact e)⟩
theorem v_iadd (hX : Cx d M X) {a b : Int} (hd : Dc M pc (.iadd) 1 nx) (k : VW X nx ls (mI (a + b) :: st) h) : VW X pc ls (mI b :: mI a :: st) h := by
  obtain ⟨p, l, e, R, s, m, args, below, meth, c, al, tc, D, A, Z, rc, rs⟩ := X
  obtain ⟨hx, hb, hml, hr, hown, hts, hlk, hK, hA, hfr, hlo, hne⟩ := hX
  obtain ⟨hdg, rfl⟩ := hd
  intro H locs la cells slots hP hD hS hl h1 h2
  exact lv_iadd hx hb hdg (vw_top (v := mI (a + b)) (congrArg Value.int (Int32.ofInt_add a b)) (k H locs la cells slots hP hD hS hl h1 h2))
theorem v_isub (hX : Cx d M X) {a b : Int} (hd : Dc M pc (.isub) 1 nx) (k : VW X nx ls (mI (a - b) :: st) h) : VW X pc ls (mI b :: mI a :: st) h := by
  obtain ⟨p, l, e, R, s, m, args, below, meth, c, al, tc, D, A, Z, rc, rs⟩ := X
  obtain ⟨hx, hb, hml, hr, hown, hts, hlk, hK, hA, hfr, hlo, hne⟩ := hX
  obtain ⟨hdg, rfl⟩ := hd
  intro H locs la cells slots hP hD hS hl h1 h2
  exact lv_isub hx hb hdg (vw_top (v := mI (a - b)) (congrArg Value.int (Int32.ofInt_sub a b)) (k H locs la cells slots hP hD hS hl h1 h2))
theorem v_imul (hX : Cx d M X) {a b : Int} (hd : Dc M pc (.imul) 1 nx) (k : VW X nx ls (mI (a * b) :: st) h) : VW X pc ls (mI b :: mI a :: st) h := by
  obtain ⟨p, l, e, R, s, m, args, below, meth, c, al, tc, D, A, Z, rc, rs⟩ := X
  obtain ⟨hx, hb, hml, hr, hown, hts, hlk, hK, hA, hfr, hlo, hne⟩ := hX
  obtain ⟨hdg, rfl⟩ := hd
  intro H locs la cells slots hP hD hS hl h1 h2
  exact lv_imul hx hb hdg (vw_top (v := mI (a * b)) (congrArg Value.int (Int32.ofInt_mul a b)) (k H locs la cells slots hP hD hS hl h1 h2))
theorem v_ladd (hX : Cx d M X) {a b : Int} (hd : Dc M pc (.ladd) 1 nx) (k : VW X nx ls (mL (a + b) :: st) h) : VW X pc ls (mL b :: mL a :: st) h := by
  obtain ⟨p, l, e, R, s, m, args, below, meth, c, al, tc, D, A, Z, rc, rs⟩ := X
  obtain ⟨hx, hb, hml, hr, hown, hts, hlk, hK, hA, hfr, hlo, hne⟩ := hX
  obtain ⟨hdg, rfl⟩ := hd
  intro H locs la cells slots hP hD hS hl h1 h2
  exact lv_ladd hx hb hdg (vw_top (v := mL (a + b)) (congrArg Value.long (Int64.ofInt_add a b)) (k H locs la cells slots hP hD hS hl h1 h2))
theorem v_lsub (hX : Cx d M X) {a b : Int} (hd : Dc M pc (.lsub) 1 nx) (k : VW X nx ls (mL (a - b) :: st) h) : VW X pc ls (mL b :: mL a :: st) h := by
  obtain ⟨p, l, e, R, s, m, args, below, meth, c, al, tc, D, A, Z, rc, rs⟩ := X
  obtain ⟨hx, hb, hml, hr, hown, hts, hlk, hK, hA, hfr, hlo, hne⟩ := hX
  obtain ⟨hdg, rfl⟩ := hd
  intro H locs la cells slots hP hD hS hl h1 h2
  exact lv_lsub hx hb hdg (vw_top (v := mL (a - b)) (congrArg Value.long (Int64.ofInt_sub a b)) (k H locs la cells slots hP hD hS hl h1 h2))
theorem v_lmul (hX : Cx d M X) {a b : Int} (hd : Dc M pc (.lmul) 1 nx) (k : VW X nx ls (mL (a * b) :: st) h) : VW X pc ls (mL b :: mL a :: st) h := by
  obtain ⟨p, l, e, R, s, m, args, below, meth, c, al, tc, D, A, Z, rc, rs⟩ := X
  obtain ⟨hx, hb, hml, hr, hown, hts, hlk, hK, hA, hfr, hlo, hne⟩ := hX
  obtain ⟨hdg, rfl⟩ := hd
  intro H locs la cells slots hP hD hS hl h1 h2
  exact lv_lmul hx hb hdg (vw_top (v := mL (a * b)) (congrArg Value.long (Int64.ofInt_mul a b)) (k H locs la cells slots hP hD hS hl h1 h2))
theorem v_iand (hX : Cx d M X) {a b : Int} (hd : Dc M pc (.iand) 1 nx) (k : VW X nx ls (mI (band a b) :: st) h) : VW X pc ls (mI b :: mI a :: st) h := by
  obtain ⟨p, l, e, R, s, m, args, below, meth, c, al, tc, D, A, Z, rc, rs⟩ := X
  obtain ⟨hx, hb, hml, hr, hown, hts, hlk, hK, hA, hfr, hlo, hne⟩ := hX
  obtain ⟨hdg, rfl⟩ := hd
  intro H locs la cells slots hP hD hS hl h1 h2
  exact lv_iand hx hb hdg (vw_top (v := mI (band a b)) (congrArg Value.int (oi_of _)) (k H locs la cells slots hP hD hS hl h1 h2))
theorem v_ior (hX : Cx d M X) {a b : Int} (hd : Dc M pc (.ior) 1 nx) (k : VW X nx ls (mI (bor a b) :: st) h) : VW X pc ls (mI b :: mI a :: st) h := by
  obtain ⟨p, l, e, R, s, m, args, below, meth, c, al, tc, D, A, Z, rc, rs⟩ := X
  obtain ⟨hx, hb, hml, hr, hown, hts, hlk, hK, hA, hfr, hlo, hne⟩ := hX
  obtain ⟨hdg, rfl⟩ := hd
  intro H locs la cells slots hP hD hS hl h1 h2
  exact lv_ior hx hb hdg (vw_top (v := mI (bor a b)) (congrArg Value.int (oi_of _)) (k H locs la cells slots hP hD hS hl h1 h2))
theorem v_ixor (hX : Cx d M X) {a b : Int} (hd : Dc M pc (.ixor) 1 nx) (k : VW X nx ls (mI (bxor a b) :: st) h) : VW X pc ls (mI b :: mI a :: st) h := by
  obtain ⟨p, l, e, R, s, m, args, below, meth, c, al, tc, D, A, Z, rc, rs⟩ := X
  obtain ⟨hx, hb, hml, hr, hown, hts, hlk, hK, hA, hfr, hlo, hne⟩ := hX
  obtain ⟨hdg, rfl⟩ := hd
  intro H locs la cells slots hP hD hS hl h1 h2
  exact lv_ixor hx hb hdg (vw_top (v := mI (bxor a b)) (congrArg Value.int (oi_of _)) (k H locs la cells slots hP hD hS hl h1 h2))
theorem v_ishl (hX : Cx d M X) {a b : Int} (hd : Dc M pc (.ishl) 1 nx) (k : VW X nx ls (mI (bshl a b) :: st) h) : VW X pc ls (mI b :: mI a :: st) h := by
  obtain ⟨p, l, e, R, s, m, args, below, meth, c, al, tc, D, A, Z, rc, rs⟩ := X
  obtain ⟨hx, hb, hml, hr, hown, hts, hlk, hK, hA, hfr, hlo, hne⟩ := hX
  obtain ⟨hdg, rfl⟩ := hd
  intro H locs la cells slots hP hD hS hl h1 h2
  exact lv_ishl hx hb hdg (vw_top (v := mI (bshl a b)) (congrArg Value.int (oi_of _)) (k H locs la cells slots hP hD hS hl h1 h2))
theorem v_ishr (hX : Cx d M X) {a b : Int} (hd : Dc M pc (.ishr) 1 nx) (k : VW X nx ls (mI (bshr a b) :: st) h) : VW X pc ls (mI b :: mI a :: st) h := by
  obtain ⟨p, l, e, R, s, m, args, below, meth, c, al, tc, D, A, Z, rc, rs⟩ := X
  obtain ⟨hx, hb, hml, hr, hown, hts, hlk, hK, hA, hfr, hlo, hne⟩ := hX
  obtain ⟨hdg, rfl⟩ := hd
  intro H locs la cells slots hP hD hS hl h1 h2
  exact lv_ishr hx hb hdg (vw_top (v := mI (bshr a b)) (congrArg Value.int (oi_of _)) (k H locs la cells slots hP hD hS hl h1 h2))
theorem v_iushr (hX : Cx d M X) {a b : Int} (hd : Dc M pc (.iushr) 1 nx) (k : VW X nx ls (mI (bushr a b) :: st) h) : VW X pc ls (mI b :: mI a :: st) h := by
  obtain ⟨p, l, e, R, s, m, args, below, meth, c, al, tc, D, A, Z, rc, rs⟩ := X
  obtain ⟨hx, hb, hml, hr, hown, hts, hlk, hK, hA, hfr, hlo, hne⟩ := hX
  obtain ⟨hdg, rfl⟩ := hd
  intro H locs la cells slots hP hD hS hl h1 h2
  exact lv_iushr hx hb hdg (oi_of _).symm (k H locs la cells slots hP hD hS hl h1 h2)
theorem v_irem (hX : Cx d M X) {a b : Int} (hd : Dc M pc (.irem) 1 nx) (hz : -2147483648 ≤ b ∧ b < 2147483648 ∧ b ≠ 0) (k : VW X nx ls (mI (irem a b) :: st) h) : VW X pc ls (mI b :: mI a :: st) h := by
  obtain ⟨p, l, e, R, s, m, args, below, meth, c, al, tc, D, A, Z, rc, rs⟩ := X
  obtain ⟨hx, hb, hml, hr, hown, hts, hlk, hK, hA, hfr, hlo, hne⟩ := hX
  obtain ⟨hdg, rfl⟩ := hd
  intro H locs la cells slots hP hD hS hl h1 h2
  exact lv_irem hx hb hdg (fun q => hz.2.2 ((oi_eq (b := 0) ⟨hz.1, hz.2.1⟩ ⟨by decide, by decide⟩).mp q)) (vw_top (v := mI (irem a b)) (congrArg Value.int (oi_of _)) (k H locs la cells slots hP hD hS hl h1 h2))
theorem v_i2l (hX : Cx d M X) {a : Int} (hd : Dc M pc (.i2l) 1 nx) (ha : rng a) (k : VW X nx ls (mL a :: st) h) : VW X pc ls (mI a :: st) h := by
  obtain ⟨p, l, e, R, s, m, args, below, meth, c, al, tc, D, A, Z, rc, rs⟩ := X
  obtain ⟨hx, hb, hml, hr, hown, hts, hlk, hK, hA, hfr, hlo, hne⟩ := hX
  obtain ⟨hdg, rfl⟩ := hd
  intro H locs la cells slots hP hD hS hl h1 h2
  exact lv_i2l hx hb hdg (by rw [← Int64.toInt_inj, Int32.toInt_toInt64, oi_toInt ha, ol_toInt ⟨by omega, by omega⟩]) (k H locs la cells slots hP hD hS hl h1 h2)
theorem v_i2b (hX : Cx d M X) {a : Int} (hd : Dc M pc (.i2b) 1 nx) (k : VW X nx ls (mI (i2b a) :: st) h) : VW X pc ls (mI a :: st) h := by
  obtain ⟨p, l, e, R, s, m, args, below, meth, c, al, tc, D, A, Z, rc, rs⟩ := X
  obtain ⟨hx, hb, hml, hr, hown, hts, hlk, hK, hA, hfr, hlo, hne⟩ := hX
  obtain ⟨hdg, rfl⟩ := hd
  intro H locs la cells slots hP hD hS hl h1 h2
  exact lv_i2b hx hb hdg (oi_of _).symm (k H locs la cells slots hP hD hS hl h1 h2)
theorem v_lshl (hX : Cx d M X) {a b : Int} (hd : Dc M pc (.lshl) 1 nx) (k : VW X nx ls (mL (lshl a b) :: st) h) : VW X pc ls (mI b :: mL a :: st) h := by
  obtain ⟨p, l, e, R, s, m, args, below, meth, c, al, tc, D, A, Z, rc, rs⟩ := X
  obtain ⟨hx, hb, hml, hr, hown, hts, hlk, hK, hA, hfr, hlo, hne⟩ := hX
  obtain ⟨hdg, rfl⟩ := hd
  intro H locs la cells slots hP hD hS hl h1 h2
  exact lv_lshl hx hb hdg (Int64.ofInt_toInt _).symm (k H locs la cells slots hP hD hS hl h1 h2)
theorem v_lshr (hX : Cx d M X) {a b : Int} (hd : Dc M pc (.lshr) 1 nx) (k : VW X nx ls (mL (lshr a b) :: st) h) : VW X pc ls (mI b :: mL a :: st) h := by
  obtain ⟨p, l, e, R, s, m, args, below, meth, c, al, tc, D, A, Z, rc, rs⟩ := X
  obtain ⟨hx, hb, hml, hr, hown, hts, hlk, hK, hA, hfr, hlo, hne⟩ := hX
  obtain ⟨hdg, rfl⟩ := hd
  intro H locs la cells slots hP hD hS hl h1 h2
  exact lv_lshr hx hb hdg (Int64.ofInt_toInt _).symm (k H locs la cells slots hP hD hS hl h1 h2)
theorem v_lcmp (hX : Cx d M X) {a b : Int} (hd : Dc M pc (.lcmp) 1 nx) (ha : lrng a) (hbr : lrng b) (k : VW X nx ls (mI (lcm a b) :: st) h) : VW X pc ls (mL b :: mL a :: st) h := by
  obtain ⟨p, l, e, R, s, m, args, below, meth, c, al, tc, D, A, Z, rc, rs⟩ := X
  obtain ⟨hx, hb, hml, hr, hown, hts, hlk, hK, hA, hfr, hlo, hne⟩ := hX
  obtain ⟨hdg, rfl⟩ := hd
  intro H locs la cells slots hP hD hS hl h1 h2
  refine W.lcmp hx hb hdg (vw_top (v := mI (lcm a b)) (congrArg Value.int ?_) (k H locs la cells slots hP hD hS hl h1 h2))
  show Int32.ofInt (lcm a b) = lg_cmp (Int64.ofInt a) (Int64.ofInt b)
  unfold lcm lg_cmp
  simp only [gt_iff_lt, ol_lt hbr ha, ol_eq ha hbr]
  split
  · rfl
  · split <;> rfl
theorem v_dup (hX : Cx d M X) {v : MV} (hd : Dc M pc (.dup) 1 nx) (hv : mcat v = 1) (k : VW X nx ls (v :: v :: st) h) : VW X pc ls (v :: st) h := by
  obtain ⟨p, l, e, R, s, m, args, below, meth, c, al, tc, D, A, Z, rc, rs⟩ := X
  obtain ⟨hx, hb, hml, hr, hown, hts, hlk, hK, hA, hfr, hlo, hne⟩ := hX
  obtain ⟨hdg, rfl⟩ := hd
  intro H locs la cells slots hP hD hS hl h1 h2
  exact lv_dup hx hb hdg (by rw [conc_cat, hv]) (k H locs la cells slots hP hD hS hl h1 h2)
theorem v_dup2 (hX : Cx d M X) {v w : MV} (hd : Dc M pc (.dup2) 1 nx) (hv : mcat v = 1) (hw : mcat w = 1) (k : VW X nx ls (v :: w :: v :: w :: st) h) : VW X pc ls (v :: w :: st) h := by
  obtain ⟨p, l, e, R, s, m, args, below, meth, c, al, tc, D, A, Z, rc, rs⟩ := X
  obtain ⟨hx, hb, hml, hr, hown, hts, hlk, hK, hA, hfr, hlo, hne⟩ := hX
  obtain ⟨hdg, rfl⟩ := hd
  intro H locs la cells slots hP hD hS hl h1 h2
  exact lv_dup2_11 hx hb hdg (by rw [conc_cat, hv]) (by rw [conc_cat, hw]) (k H locs la cells slots hP hD hS hl h1 h2)
theorem v_dup2L (hX : Cx d M X) {v : MV} (hd : Dc M pc (.dup2) 1 nx) (hv : mcat v = 2) (k : VW X nx ls (v :: v :: st) h) : VW X pc ls (v :: st) h := by
  obtain ⟨p, l, e, R, s, m, args, below, meth, c, al, tc, D, A, Z, rc, rs⟩ := X
  obtain ⟨hx, hb, hml, hr, hown, hts, hlk, hK, hA, hfr, hlo, hne⟩ := hX
  obtain ⟨hdg, rfl⟩ := hd
  intro H locs la cells slots hP hD hS hl h1 h2
  exact lv_dup2_2 hx hb hdg (by rw [conc_cat, hv]) (k H locs la cells slots hP hD hS hl h1 h2)
theorem v_icmp_eq (hX : Cx d M X) {a b off : Int} {tgt : Nat} (hd : Dc M pc (.if_icmp .eq off) 3 nx) (ht : (pc : Int) + off = (tgt : Int)) (ha : rng a) (hb2 : rng b) (kt : a = b → VW X tgt ls st h) (kf : ¬ (a = b) → VW X nx ls st h) : VW X pc ls (mI b :: mI a :: st) h := by
  obtain ⟨p, l, e, R, s, m, args, below, meth, c, al, tc, D, A, Z, rc, rs⟩ := X
  obtain ⟨hx, hb, hml, hr, hown, hts, hlk, hK, hA, hfr, hlo, hne⟩ := hX
  obtain ⟨hdg, rfl⟩ := hd
  intro H locs la cells slots hP hD hS hl h1 h2
  exact lv_icmp_eq hx hb hdg ht (fun q => kt ((oi_eq ha hb2).mp q) H locs la cells slots hP hD hS hl h1 h2) (fun q => kf (fun e => q ((oi_eq ha hb2).mpr e)) H locs la cells slots hP hD hS hl h1 h2)
theorem v_if_eq (hX : Cx d M X) {a off : Int} {tgt : Nat} (hd : Dc M pc (.ifCond .eq off) 3 nx) (ht : (pc : Int) + off = (tgt : Int)) (ha : rng a) (kt : a = 0 → VW X tgt ls st h) (kf : ¬ (a = 0) → VW X nx ls st h) : VW X pc ls (mI a :: st) h := by
  obtain ⟨p, l, e, R, s, m, args, below, meth, c, al, tc, D, A, Z, rc, rs⟩ := X
  obtain ⟨hx, hb, hml, hr, hown, hts, hlk, hK, hA, hfr, hlo, hne⟩ := hX
  obtain ⟨hdg, rfl⟩ := hd
  intro H locs la cells slots hP hD hS hl h1 h2
  have z0 : rng 0 := ⟨by decide, by decide⟩
  exact lv_if_eq hx hb hdg ht (fun q => kt ((oi_eq ha z0).mp q) H locs la cells slots hP hD hS hl h1 h2) (fun q => kf (fun e => q ((oi_eq ha z0).mpr e)) H locs la cells slots hP hD hS hl h1 h2)
theorem v_icmp_ne (hX : Cx d M X) {a b off : Int} {tgt : Nat} (hd : Dc M pc (.if_icmp .ne off) 3 nx) (ht : (pc : Int) + off = (tgt : Int)) (ha : rng a) (hb2 : rng b) (kt : ¬ a = b → VW X tgt ls st h) (kf : a = b → VW X nx ls st h) : VW X pc ls (mI b :: mI a :: st) h := by
  obtain ⟨p, l, e, R, s, m, args, below, meth, c, al, tc, D, A, Z, rc, rs⟩ := X
  obtain ⟨hx, hb, hml, hr, hown, hts, hlk, hK, hA, hfr, hlo, hne⟩ := hX
  obtain ⟨hdg, rfl⟩ := hd
  intro H locs la cells slots hP hD hS hl h1 h2
  exact lv_icmp_ne hx hb hdg ht (fun q => kt (fun e => q ((oi_eq ha hb2).mpr e)) H locs la cells slots hP hD hS hl h1 h2) (fun q => kf ((oi_eq ha hb2).mp q) H locs la cells slots hP hD hS hl h1 h2)
theorem v_if_ne (hX : Cx d M X) {a off : Int} {tgt : Nat} (hd : Dc M pc (.ifCond .ne off) 3 nx) (ht : (pc : Int) + off = (tgt : Int)) (ha : rng a) (kt : ¬ a = 0 → VW X tgt ls st h) (kf : a = 0 → VW X nx ls st h) : VW X pc ls (mI a :: st) h := by
  obtain ⟨p, l, e, R, s, m, args, below, meth, c, al, tc, D, A, Z, rc, rs⟩ := X
  obtain ⟨hx, hb, hml, hr, hown, hts, hlk, hK, hA, hfr, hlo, hne⟩ := hX
  obtain ⟨hdg, rfl⟩ := hd
  intro H locs la cells slots hP hD hS hl h1 h2
  have z0 : rng 0 := ⟨by decide, by decide⟩
  exact lv_if_ne hx hb hdg ht (fun q => kt (fun e => q ((oi_eq ha z0).mpr e)) H locs la cells slots hP hD hS hl h1 h2) (fun q => kf ((oi_eq ha z0).mp q) H locs la cells slots hP hD hS hl h1 h2)
theorem v_icmp_lt (hX : Cx d M X) {a b off : Int} {tgt : Nat} (hd : Dc M pc (.if_icmp .lt off) 3 nx) (ht : (pc : Int) + off = (tgt : Int)) (ha : rng a) (hb2 : rng b) (kt : a < b → VW X tgt ls st h) (kf : ¬ (a < b) → VW X nx ls st h) : VW X pc ls (mI b :: mI a :: st) h := by
  obtain ⟨p, l, e, R, s, m, args, below, meth, c, al, tc, D, A, Z, rc, rs⟩ := X
  obtain ⟨hx, hb, hml, hr, hown, hts, hlk, hK, hA, hfr, hlo, hne⟩ := hX
  obtain ⟨hdg, rfl⟩ := hd
  intro H locs la cells slots hP hD hS hl h1 h2
  exact lv_icmp_lt hx hb hdg ht (fun q => kt ((oi_lt ha hb2).mp q) H locs la cells slots hP hD hS hl h1 h2) (fun q => kf (fun e => q ((oi_lt ha hb2).mpr e)) H locs la cells slots hP hD hS hl h1 h2)
theorem v_if_lt (hX : Cx d M X) {a off : Int} {tgt : Nat} (hd : Dc M pc (.ifCond .lt off) 3 nx) (ht : (pc : Int) + off = (tgt : Int)) (ha : rng a) (kt : a < 0 → VW X tgt ls st h) (kf : ¬ (a < 0) → VW X nx ls st h) : VW X pc ls (mI a :: st) h := by
  obtain ⟨p, l, e, R, s, m, args, below, meth, c, al, tc, D, A, Z, rc, rs⟩ := X
  obtain ⟨hx, hb, hml, hr, hown, hts, hlk, hK, hA, hfr, hlo, hne⟩ := hX
  obtain ⟨hdg, rfl⟩ := hd
  intro H locs la cells slots hP hD hS hl h1 h2
  have z0 : rng 0 := ⟨by decide, by decide⟩
  exact lv_if_lt hx hb hdg ht (fun q => kt ((oi_lt ha z0).mp q) H locs la cells slots hP hD hS hl h1 h2) (fun q => kf (fun e => q ((oi_lt ha z0).mpr e)) H locs la cells slots hP hD hS hl h1 h2)
theorem v_icmp_le (hX : Cx d M X) {a b off : Int} {tgt : Nat} (hd : Dc M pc (.if_icmp .le off) 3 nx) (ht : (pc : Int) + off = (tgt : Int)) (ha : rng a) (hb2 : rng b) (kt : a ≤ b → VW X tgt ls st h) (kf : ¬ (a ≤ b) → VW X nx ls st h) : VW X pc ls (mI b :: mI a :: st) h := by
  obtain ⟨p, l, e, R, s, m, args, below, meth, c, al, tc, D, A, Z, rc, rs⟩ := X
  obtain ⟨hx, hb, hml, hr, hown, hts, hlk, hK, hA, hfr, hlo, hne⟩ := hX
  obtain ⟨hdg, rfl⟩ := hd
  intro H locs la cells slots hP hD hS hl h1 h2
  exact lv_icmp_le hx hb hdg ht (fun q => kt ((oi_le ha hb2).mp q) H locs la cells slots hP hD hS hl h1 h2) (fun q => kf (fun e => q ((oi_le ha hb2).mpr e)) H locs la cells slots hP hD hS hl h1 h2)
theorem v_if_le (hX : Cx d M X) {a off : Int} {tgt : Nat} (hd : Dc M pc (.ifCond .le off) 3 nx) (ht : (pc : Int) + off = (tgt : Int)) (ha : rng a) (kt : a ≤ 0 → VW X tgt ls st h) (kf : ¬ (a ≤ 0) → VW X nx ls st h) : VW X pc ls (mI a :: st) h := by
  obtain ⟨p, l, e, R, s, m, args, below, meth, c, al, tc, D, A, Z, rc, rs⟩ := X
  obtain ⟨hx, hb, hml, hr, hown, hts, hlk, hK, hA, hfr, hlo, hne⟩ := hX
  obtain ⟨hdg, rfl⟩ := hd
  intro H locs la cells slots hP hD hS hl h1 h2
  have z0 : rng 0 := ⟨by decide, by decide⟩
  exact lv_if_le hx hb hdg ht (fun q => kt ((oi_le ha z0).mp q) H locs la cells slots hP hD hS hl h1 h2) (fun q => kf (fun e => q ((oi_le ha z0).mpr e)) H locs la cells slots hP hD hS hl h1 h2)
theorem v_icmp_ge (hX : Cx d M X) {a b off : Int} {tgt : Nat} (hd : Dc M pc (.if_icmp .ge off) 3 nx) (ht : (pc : Int) + off = (tgt : Int)) (ha : rng a) (hb2 : rng b) (kt : b ≤ a → VW X tgt ls st h) (kf : ¬ (b ≤ a) → VW X nx ls st h) : VW X pc ls (mI b :: mI a :: st) h := by
  obtain ⟨p, l, e, R, s, m, args, below, meth, c, al, tc, D, A, Z, rc, rs⟩ := X
  obtain ⟨hx, hb, hml, hr, hown, hts, hlk, hK, hA, hfr, hlo, hne⟩ := hX
  obtain ⟨hdg, rfl⟩ := hd
  intro H locs la cells slots hP hD hS hl h1 h2
  exact lv_icmp_ge hx hb hdg ht (fun q => kt ((oi_le hb2 ha).mp q) H locs la cells slots hP hD hS hl h1 h2) (fun q => kf (fun e => q ((oi_le hb2 ha).mpr e)) H locs la cells slots hP hD hS hl h1 h2)
theorem v_if_ge (hX : Cx d M X) {a off : Int} {tgt : Nat} (hd : Dc M pc (.ifCond .ge off) 3 nx) (ht : (pc : Int) + off = (tgt : Int)) (ha : rng a) (kt : 0 ≤ a → VW X tgt ls st h) (kf : ¬ (0 ≤ a) → VW X nx ls st h) : VW X pc ls (mI a :: st) h := by
  obtain ⟨p, l, e, R, s, m, args, below, meth, c, al, tc, D, A, Z, rc, rs⟩ := X
  obtain ⟨hx, hb, hml, hr, hown, hts, hlk, hK, hA, hfr, hlo, hne⟩ := hX
  obtain ⟨hdg, rfl⟩ := hd
  intro H locs la cells slots hP hD hS hl h1 h2
  have z0 : rng 0 := ⟨by decide, by decide⟩
  exact lv_if_ge hx hb hdg ht (fun q => kt ((oi_le z0 ha).mp q) H locs la cells slots hP hD hS hl h1 h2) (fun q => kf (fun e => q ((oi_le z0 ha).mpr e)) H locs la cells slots hP hD hS hl h1 h2)
theorem v_icmp_gt (hX : Cx d M X) {a b off : Int} {tgt : Nat} (hd : Dc M pc (.if_icmp .gt off) 3 nx) (ht : (pc : Int) + off = (tgt : Int)) (ha : rng a) (hb2 : rng b) (kt : b < a → VW X tgt ls st h) (kf : ¬ (b < a) → VW X nx ls st h) : VW X pc ls (mI b :: mI a :: st) h := by
  obtain ⟨p, l, e, R, s, m, args, below, meth, c, al, tc, D, A, Z, rc, rs⟩ := X
  obtain ⟨hx, hb, hml, hr, hown, hts, hlk, hK, hA, hfr, hlo, hne⟩ := hX
  obtain ⟨hdg, rfl⟩ := hd
  intro H locs la cells slots hP hD hS hl h1 h2
  exact lv_icmp_gt hx hb hdg ht (fun q => kt ((oi_lt hb2 ha).mp q) H locs la cells slots hP hD hS hl h1 h2) (fun q => kf (fun e => q ((oi_lt hb2 ha).mpr e)) H locs la cells slots hP hD hS hl h1 h2)
theorem v_if_gt (hX : Cx d M X) {a off : Int} {tgt : Nat} (hd : Dc M pc (.ifCond .gt off) 3 nx) (ht : (pc : Int) + off = (tgt : Int)) (ha : rng a) (kt : 0 < a → VW X tgt ls st h) (kf : ¬ (0 < a) → VW X nx ls st h) : VW X pc ls (mI a :: st) h := by
  obtain ⟨p, l, e, R, s, m, args, below, meth, c, al, tc, D, A, Z, rc, rs⟩ := X
  obtain ⟨hx, hb, hml, hr, hown, hts, hlk, hK, hA, hfr, hlo, hne⟩ := hX
  obtain ⟨hdg, rfl⟩ := hd
  intro H locs la cells slots hP hD hS hl h1 h2
  have z0 : rng 0 := ⟨by decide, by decide⟩
  exact lv_if_gt hx hb hdg ht (fun q => kt ((oi_lt z0 ha).mp q) H locs la cells slots hP hD hS hl h1 h2) (fun q => kf (fun e => q ((oi_lt z0 ha).mpr e)) H locs la cells slots hP hD hS hl h1 h2)
theorem v_goto (hX : Cx d M X) {off : Int} {tgt : Nat} (hd : Dc M pc (.goto off) 3 nx) (ht : (pc : Int) + off = (tgt : Int)) (k : VW X tgt ls st h) : VW X pc ls (st) h := by
  obtain ⟨p, l, e, R, s, m, args, below, meth, c, al, tc, D, A, Z, rc, rs⟩ := X
  obtain ⟨hx, hb, hml, hr, hown, hts, hlk, hK, hA, hfr, hlo, hne⟩ := hX
  obtain ⟨hdg, rfl⟩ := hd
  intro H locs la cells slots hP hD hS hl h1 h2
  exact lv_goto hx hb hdg ht (k H locs la cells slots hP hD hS hl h1 h2)
theorem v_ifnull (hX : Cx d M X) {a : Nat} {off : Int} (hd : Dc M pc (.ifnull off) 3 nx) (k : VW X nx ls st h) : VW X pc ls (mA a :: st) h := by
  obtain ⟨p, l, e, R, s, m, args, below, meth, c, al, tc, D, A, Z, rc, rs⟩ := X
  obtain ⟨hx, hb, hml, hr, hown, hts, hlk, hK, hA, hfr, hlo, hne⟩ := hX
  obtain ⟨hdg, rfl⟩ := hd
  intro H locs la cells slots hP hD hS hl h1 h2
  exact lv_ifnull hx hb hdg (k H locs la cells slots hP hD hS hl h1 h2)
theorem v_ifnullN (hX : Cx d M X) {off : Int} {tgt : Nat} (hd : Dc M pc (.ifnull off) 3 nx) (ht : (pc : Int) + off = (tgt : Int)) (k : VW X tgt ls st h) : VW X pc ls (mN :: st) h := by
  obtain ⟨p, l, e, R, s, m, args, below, meth, c, al, tc, D, A, Z, rc, rs⟩ := X
  obtain ⟨hx, hb, hml, hr, hown, hts, hlk, hK, hA, hfr, hlo, hne⟩ := hX
  obtain ⟨hdg, rfl⟩ := hd
  intro H locs la cells slots hP hD hS hl h1 h2
  exact lv_ifnullN hx hb hdg ht (k H locs la cells slots hP hD hS hl h1 h2)
theorem v_ifnonnull (hX : Cx d M X) {a : Nat} {off : Int} {tgt : Nat} (hd : Dc M pc (.ifnonnull off) 3 nx) (ht : (pc : Int) + off = (tgt : Int)) (k : VW X tgt ls st h) : VW X pc ls (mA a :: st) h := by
  obtain ⟨p, l, e, R, s, m, args, below, meth, c, al, tc, D, A, Z, rc, rs⟩ := X
  obtain ⟨hx, hb, hml, hr, hown, hts, hlk, hK, hA, hfr, hlo, hne⟩ := hX
  obtain ⟨hdg, rfl⟩ := hd
  intro H locs la cells slots hP hD hS hl h1 h2
  exact lv_ifnonnull hx hb hdg ht (k H locs la cells slots hP hD hS hl h1 h2)
theorem v_ifnonnullN (hX : Cx d M X) {off : Int} (hd : Dc M pc (.ifnonnull off) 3 nx) (k : VW X nx ls st h) : VW X pc ls (mN :: st) h := by
  obtain ⟨p, l, e, R, s, m, args, below, meth, c, al, tc, D, A, Z, rc, rs⟩ := X
  obtain ⟨hx, hb, hml, hr, hown, hts, hlk, hK, hA, hfr, hlo, hne⟩ := hX
  obtain ⟨hdg, rfl⟩ := hd
  intro H locs la cells slots hP hD hS hl h1 h2
  exact lv_ifnonnullN hx hb hdg (k H locs la cells slots hP hD hS hl h1 h2)
end VRULES
