/-! THE BUILDING LAYER: constructors, over a list of cells that grows -/
section BUILD
abbrev CB : Type := Program × Launch × Env × Room × State × MethodId × Array Value × List Frame × Method × Code × (Nat → ClassId) × va_G × (Nat → Prop) × (State → Prop)
def TC (X : CB) : Nat → ClassId := match X with
  | (_, _, _, _, _, _, _, _, _, _, tc, _, _, _) => tc
def NW (U : State) : Prop := (∀ w ∈ NWL, va_Nw w U) ∧ va_AO "WishSharer$Pupil" U ∧ va_AO "WishSharer$Project" U
theorem NW.warm {s U : State} (hW : s.WarmedH U.vm) (h : NW s) : NW U := by
  refine ⟨fun w hw => ?_, h.2.1.moved hW.alike, h.2.2.moved hW.alike⟩
  have hv := h.1 w hw
  simp only [NWL, List.mem_cons, List.not_mem_nil, or_false] at hw
  rcases hw with rfl | rfl | rfl | rfl | rfl
  · exact va_Nw.warmM hW hv
  · exact va_Nw.warmM hW hv
  · exact va_Nw.warmM hW hv
  · exact va_Nw.warmM hW hv
  · exact va_Nw.warmM hW hv
theorem nwl_tab : ∀ w ∈ NWL, w.onTables = true := by decide +kernel
theorem NW.same {u U : State} (e : u.vm = U.vm) (h : NW u) : NW U := ⟨fun w hw => va_Nw.same (nwl_tab w hw) e (h.1 w hw), h.2.1.moved (by rw [← e]; exact Vm.Alike.refl u.vm), h.2.2.moved (by rw [← e]; exact Vm.Alike.refl u.vm)⟩
def BW (X : CB) (rc rs pc : Nat) (ls : List (Option MV)) (st : List MV) (h : va_W) : Prop := match X with
  | (p, l, e, R, s, m, args, below, meth, c, tc, D, A, Z) =>
    ∀ (H : Heap) (locs : List Loc) (la : Array Slot) (cells slots : Nat), va_P D vwCl h H → va_D A h → va_S A s.heap H locs → LH id ls la c.maxLocals → cells + rc ≤ R.cells → slots + rs ≤ R.slots →
      W p l e R s m args below meth c H locs cells slots Z (F0 m pc la (st.map (conc id)))
def Bx (d : Nat) (M : MT) (X : CB) : Prop := match X with
  | (p, _, _, R, s, m, args, _, meth, c, tc, D, A, _) =>
    p.tables.exec = Jvm.exec ∧ c.code = M.2.1 ∧ c.maxLocals = M.2.2.1 ∧ meth.sig.returnType = M.2.2.2.1 ∧ s.vm.findClass M.1.cls = some m.cls ∧ (∀ w ∈ TB, w.before args s = true) ∧ meth.locks = false ∧ va_K D vwCl (TY tc) s ∧ (∀ q, s.heap.size ≤ q → A q) ∧ d ≤ R.frames ∧ 64 * d + 20 ≤ R.locals ∧ NW s ∧ (M.1.name = "<init>" → meth.name = "<init>")
def rmI (d mc ms : Nat) : Room := { frames := d, cells := mc, slots := ms, locals := 64 * d + 20 }
def PI (tc : Nat → ClassId) (D : va_G) (q : Nat) (e0 : va_E) (sz : Nat) : State → Prop := fun U => U.heap.size = sz ∧ va_P D vwCl [(q, e0)] U.heap ∧ va_K D vwCl (TY tc) U ∧ va_D (fun _ => True) [(q, e0)] ∧ NW U
def QI (D : va_G) (A : Nat → Prop) (Q : va_W → Prop) : Array Value → State → Outcome → State → Prop := fun _ st oc t => (∃ w : va_W, oc = .returned none ∧ Q w ∧ va_P D vwCl w t.heap ∧ va_D A w) ∧ va_F A st t
/-- a constructor: from a new object's cell to the cells that it leaves -/
def CtI (d : Nat) (M : MT) (e0 : va_E) (mc ms : Nat) (Q : (Nat → ClassId) → Nat → va_W → Prop) : Prop := ∀ (l : Launch) (tc : Nat → ClassId) (D : va_G) (q sz : Nat), Met l M.1 (wsM M) (rmI d mc ms) (va_Pc [.ref q] (PI tc D q e0 sz)) (QI D (va_A [(q, e0)] sz) (Q tc q)) mc ms (va_A [(q, e0)] sz)
def Ri (Q : (Nat → ClassId) → Nat → va_W → Prop) (q : Nat) (X : CB) : Prop := match X with
  | (_, _, _, R, s, _, args, below, _, _, tc, D, A, Z) => Z = MQ below (QI D A (Q tc q)) args s R.cells R.slots A
theorem PI_blind {tc : Nat → ClassId} {D : va_G} {q sz : Nat} {e0 : va_E} : FrameBlind (va_Pc [.ref q] (PI tc D q e0 sz)) :=
  fun a U g mk z => by
    obtain ⟨q0, q1, qP, qK, qD, qN⟩ := z
    exact ⟨q0, q1, qP, va_K.moved (u := U) (U := U.calling g mk a) (Vm.Alike.refl U.vm) qK, qD, NW.same (u := U) (U := U.calling g mk a) (by rfl) qN⟩
variable {d : Nat} {M M' : MT} {X : CB} {rc rs pc nx : Nat} {ls : List (Option MV)} {st : List MV} {h : va_W}
theorem ctorOf {e0 : va_E} {mc ms : Nat} {Q : (Nat → ClassId) → Nat → va_W → Prop} (hM : MOK M) (hn : 1 ≤ M.2.2.1) (hc : ∀ (X : CB) (q : Nat), Bx d M X → Ri Q q X → BW X mc ms 0 (entL [mA q] M.2.2.1) [] [(q, e0)]) : CtI d M e0 mc ms Q := by
  intro l tc D q sz
  refine Met.ofW (cc := M.2.1) (maxL := M.2.2.1) (ret := M.2.2.2.1) hM.1 rfl ?_
  intro p e s m args below meth c s₁ B hml hv
  obtain ⟨rfl, hsz, hP, hK, hD0, hnw⟩ := hv
  have hts0 := atoms_spec (ws := wsM M) B.pre
  subst hsz
  have hD := hD0.self (sz := s.heap.size)
  rw [lg_entry_eq]
  have hl := lv_entry [Value.ref q] (n := M.2.2.1) (by rw [show (lg_sl [Value.ref q]).length = 1 from rfl]; exact hn)
  have hcx : Bx d M (p, l, e, rmI d mc ms, s, m, [Value.ref q].toArray, below, meth, c, tc, D, va_A [(q, e0)] s.heap.size, MQ below (QI D (va_A [(q, e0)] s.heap.size) (Q tc q)) [Value.ref q].toArray s mc ms (va_A [(q, e0)] s.heap.size)) :=
    ⟨B.exec, B.bytes, hml, B.returns, findClass_of_methodNamed B.named, fun w hw => hts0 w (List.mem_cons_of_mem _ hw), B.notSynchronized, hK, fun q hq => Or.inr hq, Nat.le_refl _, Nat.le_refl _, hnw, fun e9 => (name_of_methodNamed B.named B.method).1.trans e9⟩
  exact hc _ q hcx rfl s.heap [] _ 0 0 hP hD va_S.rf ⟨by rw [hml]; exact hl.1, hl.2.1, fun i v hi => by
    have := hl.2.2 _ (show _ ∈ lv_args 0 [Value.ref q] from entL_ok id [mA q] M.2.2.1 i 0 v hi)
    simpa using this⟩ (by show 0 + mc ≤ mc; omega) (by show 0 + ms ≤ ms; omega)
theorem b_less {rc2 rs2 : Nat} (k : BW X rc rs pc ls st h) (h1 : rc ≤ rc2) (h2 : rs ≤ rs2) : BW X rc2 rs2 pc ls st h := by
  obtain ⟨p, l, e, R, s, m, args, below, meth, c, tc, D, A, Z⟩ := X
  intro H locs la cells slots hP hD hS hl g1 g2
  exact k H locs la cells slots hP hD hS hl (by omega) (by omega)
theorem b_cast {h' : va_W} (e : h = h') (k : BW X rc rs pc ls st h') : BW X rc rs pc ls st h := by
  subst e; exact k
theorem b_iconst (hX : Bx d M X) {n : Int} (hd : Dc M pc (.iconst n) 1 nx) (k : BW X rc rs nx ls (mI n :: st) h) : BW X rc rs pc ls (st) h := by
  obtain ⟨p, l, e, R, s, m, args, below, meth, c, tc, D, A, Z⟩ := X
  obtain ⟨hx, hb, hml, hr, hown, hts, hlk, hK, hA, hfr, hlo, hnw, hin⟩ := hX
  obtain ⟨hdg, rfl⟩ := hd
  intro H locs la cells slots hP hD hS hl h1 h2
  exact lv_iconst hx hb hdg rfl (k H locs la cells slots hP hD hS hl h1 h2)
theorem b_bipush (hX : Bx d M X) {n : Int} (hd : Dc M pc (.bipush n) 2 nx) (hv : (Int8.ofInt n).toInt32 = Int32.ofInt n) (k : BW X rc rs nx ls (mI n :: st) h) : BW X rc rs pc ls (st) h := by
  obtain ⟨p, l, e, R, s, m, args, below, meth, c, tc, D, A, Z⟩ := X
  obtain ⟨hx, hb, hml, hr, hown, hts, hlk, hK, hA, hfr, hlo, hnw, hin⟩ := hX
  obtain ⟨hdg, rfl⟩ := hd
  intro H locs la cells slots hP hD hS hl h1 h2
  exact lv_bipush hx hb hdg hv (k H locs la cells slots hP hD hS hl h1 h2)
theorem b_sipush (hX : Bx d M X) {n : Int} (hd : Dc M pc (.sipush n) 3 nx) (hv : (Int16.ofInt n).toInt32 = Int32.ofInt n) (k : BW X rc rs nx ls (mI n :: st) h) : BW X rc rs pc ls (st) h := by
  obtain ⟨p, l, e, R, s, m, args, below, meth, c, tc, D, A, Z⟩ := X
  obtain ⟨hx, hb, hml, hr, hown, hts, hlk, hK, hA, hfr, hlo, hnw, hin⟩ := hX
  obtain ⟨hdg, rfl⟩ := hd
  intro H locs la cells slots hP hD hS hl h1 h2
  exact lv_sipush hx hb hdg hv (k H locs la cells slots hP hD hS hl h1 h2)
theorem b_aload_n (hX : Bx d M X) {i : Fin 4} {a : Nat} (hd : Dc M pc (.aload_n i) 1 nx) (hv : ls[(i : Nat)]? = some (some (mA a))) (k : BW X rc rs nx ls (mA a :: st) h) : BW X rc rs pc ls (st) h := by
  obtain ⟨p, l, e, R, s, m, args, below, meth, c, tc, D, A, Z⟩ := X
  obtain ⟨hx, hb, hml, hr, hown, hts, hlk, hK, hA, hfr, hlo, hnw, hin⟩ := hX
  obtain ⟨hdg, rfl⟩ := hd
  intro H locs la cells slots hP hD hS hl h1 h2
  exact lv_aload_n hx hb hdg rfl (hl.2.2 _ _ hv) (k H locs la cells slots hP hD hS hl h1 h2)
theorem b_aload (hX : Bx d M X) {i : Nat} {a : Nat} (hd : Dc M pc (.aload i) 2 nx) (hv : ls[i]? = some (some (mA a))) (k : BW X rc rs nx ls (mA a :: st) h) : BW X rc rs pc ls (st) h := by
  obtain ⟨p, l, e, R, s, m, args, below, meth, c, tc, D, A, Z⟩ := X
  obtain ⟨hx, hb, hml, hr, hown, hts, hlk, hK, hA, hfr, hlo, hnw, hin⟩ := hX
  obtain ⟨hdg, rfl⟩ := hd
  intro H locs la cells slots hP hD hS hl h1 h2
  exact lv_aload hx hb hdg (hl.2.2 _ _ hv) (k H locs la cells slots hP hD hS hl h1 h2)
theorem b_iload_n (hX : Bx d M X) {i : Fin 4} {a : Int} (hd : Dc M pc (.iload_n i) 1 nx) (hv : ls[(i : Nat)]? = some (some (mI a))) (k : BW X rc rs nx ls (mI a :: st) h) : BW X rc rs pc ls (st) h := by
  obtain ⟨p, l, e, R, s, m, args, below, meth, c, tc, D, A, Z⟩ := X
  obtain ⟨hx, hb, hml, hr, hown, hts, hlk, hK, hA, hfr, hlo, hnw, hin⟩ := hX
  obtain ⟨hdg, rfl⟩ := hd
  intro H locs la cells slots hP hD hS hl h1 h2
  exact lv_iload_n hx hb hdg rfl (hl.2.2 _ _ hv) (k H locs la cells slots hP hD hS hl h1 h2)
theorem b_iload (hX : Bx d M X) {i : Nat} {a : Int} (hd : Dc M pc (.iload i) 2 nx) (hv : ls[i]? = some (some (mI a))) (k : BW X rc rs nx ls (mI a :: st) h) : BW X rc rs pc ls (st) h := by
  obtain ⟨p, l, e, R, s, m, args, below, meth, c, tc, D, A, Z⟩ := X
  obtain ⟨hx, hb, hml, hr, hown, hts, hlk, hK, hA, hfr, hlo, hnw, hin⟩ := hX
  obtain ⟨hdg, rfl⟩ := hd
  intro H locs la cells slots hP hD hS hl h1 h2
  exact lv_iload hx hb hdg (hl.2.2 _ _ hv) (k H locs la cells slots hP hD hS hl h1 h2)
theorem b_istore_n (hX : Bx d M X) {i : Fin 4} {a : Int} (hd : Dc M pc (.istore_n i) 1 nx) (hn : (Nat.ble ((i : Nat) + 1) M.2.2.1) = true) (hg : nlg ls (i : Nat) = true) (k : BW X rc rs nx (ls.set (i : Nat) (some (mI a))) st h) : BW X rc rs pc ls (mI a :: st) h := by
  obtain ⟨p, l, e, R, s, m, args, below, meth, c, tc, D, A, Z⟩ := X
  obtain ⟨hx, hb, hml, hr, hown, hts, hlk, hK, hA, hfr, hlo, hnw, hin⟩ := hX
  obtain ⟨hdg, rfl⟩ := hd
  intro H locs la cells slots hP hD hS hl h1 h2
  exact lv_istore_n hx hb hdg rfl hl.has (by rw [hml]; exact Nat.le_of_ble_eq_true hn) rfl (fun la2 hl2 => k H locs la2 cells slots hP hD hS (LH.store hg hl2) h1 h2)
theorem b_istore (hX : Bx d M X) {i : Nat} {a : Int} (hd : Dc M pc (.istore i) 2 nx) (hn : (Nat.ble (i + 1) M.2.2.1) = true) (hg : nlg ls i = true) (k : BW X rc rs nx (ls.set i (some (mI a))) st h) : BW X rc rs pc ls (mI a :: st) h := by
  obtain ⟨p, l, e, R, s, m, args, below, meth, c, tc, D, A, Z⟩ := X
  obtain ⟨hx, hb, hml, hr, hown, hts, hlk, hK, hA, hfr, hlo, hnw, hin⟩ := hX
  obtain ⟨hdg, rfl⟩ := hd
  intro H locs la cells slots hP hD hS hl h1 h2
  exact lv_istore hx hb hdg hl.has (by rw [hml]; exact Nat.le_of_ble_eq_true hn) rfl (fun la2 hl2 => k H locs la2 cells slots hP hD hS (LH.store hg hl2) h1 h2)
theorem b_astore_n (hX : Bx d M X) {i : Fin 4} {a : Nat} (hd : Dc M pc (.astore_n i) 1 nx) (hn : (Nat.ble ((i : Nat) + 1) M.2.2.1) = true) (hg : nlg ls (i : Nat) = true) (k : BW X rc rs nx (ls.set (i : Nat) (some (mA a))) st h) : BW X rc rs pc ls (mA a :: st) h := by
  obtain ⟨p, l, e, R, s, m, args, below, meth, c, tc, D, A, Z⟩ := X
  obtain ⟨hx, hb, hml, hr, hown, hts, hlk, hK, hA, hfr, hlo, hnw, hin⟩ := hX
  obtain ⟨hdg, rfl⟩ := hd
  intro H locs la cells slots hP hD hS hl h1 h2
  exact lv_astore_n hx hb hdg rfl hl.has (by rw [hml]; exact Nat.le_of_ble_eq_true hn) rfl (fun la2 hl2 => k H locs la2 cells slots hP hD hS (LH.store hg hl2) h1 h2)
theorem b_iinc (hX : Bx d M X) {i : Nat} {n a : Int} (hd : Dc M pc (.iinc i n) 3 nx) (hv : ls[i]? = some (some (mI a))) (hn : (Nat.ble (i + 1) M.2.2.1) = true) (hg : nlg ls i = true) (k : BW X rc rs nx (ls.set i (some (mI (a + n)))) st h) : BW X rc rs pc ls st h := by
  obtain ⟨p, l, e, R, s, m, args, below, meth, c, tc, D, A, Z⟩ := X
  obtain ⟨hx, hb, hml, hr, hown, hts, hlk, hK, hA, hfr, hlo, hnw, hin⟩ := hX
  obtain ⟨hdg, rfl⟩ := hd
  intro H locs la cells slots hP hD hS hl h1 h2
  have hh : lv_has la c.maxLocals ((i, Value.int (Int32.ofInt a)) :: LL id ls) := ⟨hl.1, hl.2.1, fun q hq => (List.mem_cons.mp hq).elim (fun e => by subst e; exact hl.2.2 i _ hv) (fun h => hl.has.2.2 q h)⟩
  refine lv_iinc (k := 0) (v := Int32.ofInt (a + n)) hx hb hdg hh rfl (Int32.ofInt_add a n).symm (by rw [hml]; exact Nat.le_of_ble_eq_true hn) rfl (fun la2 hl2 => k H locs la2 cells slots hP hD hS (LH.store hg ?_) h1 h2)
  exact ⟨hl2.1, hl2.2.1, fun q hq => hl2.2.2 q (by
    rcases List.mem_cons.mp hq with e | e
    · rw [e]; exact List.mem_cons_self
    · refine List.mem_cons_of_mem _ ?_
      rw [List.filter_cons]
      simp only [beq_self_eq_true, Bool.not_true, Bool.false_and]
      exact e)⟩
theorem b_dup (hX : Bx d M X) {v : MV} (hd : Dc M pc (.dup) 1 nx) (hv : mcat v = 1) (k : BW X rc rs nx ls (v :: v :: st) h) : BW X rc rs pc ls (v :: st) h := by
  obtain ⟨p, l, e, R, s, m, args, below, meth, c, tc, D, A, Z⟩ := X
  obtain ⟨hx, hb, hml, hr, hown, hts, hlk, hK, hA, hfr, hlo, hnw, hin⟩ := hX
  obtain ⟨hdg, rfl⟩ := hd
  intro H locs la cells slots hP hD hS hl h1 h2
  exact lv_dup hx hb hdg (by rw [conc_cat, hv]) (k H locs la cells slots hP hD hS hl h1 h2)
theorem b_icmp_ge (hX : Bx d M X) {a b off : Int} {tgt : Nat} (hd : Dc M pc (.if_icmp .ge off) 3 nx) (ht : (pc : Int) + off = (tgt : Int)) (ha : rng a) (hb2 : rng b) (kt : b ≤ a → BW X rc rs tgt ls st h) (kf : ¬ (b ≤ a) → BW X rc rs nx ls st h) : BW X rc rs pc ls (mI b :: mI a :: st) h := by
  obtain ⟨p, l, e, R, s, m, args, below, meth, c, tc, D, A, Z⟩ := X
  obtain ⟨hx, hb, hml, hr, hown, hts, hlk, hK, hA, hfr, hlo, hnw, hin⟩ := hX
  obtain ⟨hdg, rfl⟩ := hd
  intro H locs la cells slots hP hD hS hl h1 h2
  exact lv_icmp_ge hx hb hdg ht (fun q => kt ((oi_le hb2 ha).mp q) H locs la cells slots hP hD hS hl h1 h2) (fun q => kf (fun e => q ((oi_le hb2 ha).mpr e)) H locs la cells slots hP hD hS hl h1 h2)
theorem b_goto (hX : Bx d M X) {off : Int} {tgt : Nat} (hd : Dc M pc (.goto off) 3 nx) (ht : (pc : Int) + off = (tgt : Int)) (k : BW X rc rs tgt ls st h) : BW X rc rs pc ls (st) h := by
  obtain ⟨p, l, e, R, s, m, args, below, meth, c, tc, D, A, Z⟩ := X
  obtain ⟨hx, hb, hml, hr, hown, hts, hlk, hK, hA, hfr, hlo, hnw, hin⟩ := hX
  obtain ⟨hdg, rfl⟩ := hd
  intro H locs la cells slots hP hD hS hl h1 h2
  exact lv_goto hx hb hdg ht (k H locs la cells slots hP hD hS hl h1 h2)
theorem b_return (hX : Bx d M X) {Q : (Nat → ClassId) → Nat → va_W → Prop} {q : Nat} (hR : Ri Q q X) (hd : Dc M pc (.return_) 1 nx) (ht : M.2.2.2.1 = none) (hq : Q (TC X) q h) : BW X rc rs pc ls [] h := by
  obtain ⟨p, l, e, R, s, m, args, below, meth, c, tc, D, A, Z⟩ := X
  obtain ⟨hx, hb, hml, hr, hown, hts, hlk, hK, hA, hfr, hlo, hnw, hin⟩ := hX
  obtain ⟨hdg, rfl⟩ := hd
  intro H locs la cells slots hP hD hS hl h1 h2
  subst hR
  refine W.widen (k := R.cells) (n := R.slots) (by omega) (by omega) ?_
  exact W.vret hx hb (hr.trans ht) (fun t ht2 hW => ⟨⟨h, rfl, hq, by rw [ht2]; exact hP, hD⟩, hS.F ht2⟩) hS.2.2 hdg hlk
theorem b_objinit (hX : Bx (d + 1) M X) {idx q : Nat} (hd : Dc M pc (.invokespecial idx) 3 nx) (hl1 : Cond.methodLink M.1.cls idx objectInit ∈ TB) (k : BW X rc rs nx ls [] h) : BW X rc rs pc ls [mA q] h := by
  obtain ⟨p, l, e, R, s, m, args, below, meth, c, tc, D, A, Z⟩ := X
  obtain ⟨hx, hb, hml, hr, hown, hts, hlk, hK, hA, hfr, hlo, hnw, hin⟩ := hX
  obtain ⟨hdg, rfl⟩ := hd
  intro H locs la cells slots hP hD hS hl h1 h2
  refine W.objInit (g := F0 m pc la ([mA q].map (conc id))) hx hb hown (hts _ hl1) (hts _ oi_inst) (hts _ oi_code) rfl hl.1 (a := q) (rest := []) rfl hdg (by omega) (by show 2 * 0 + 0 + 12 ≤ R.locals; omega) ?_
  refine W.eq (g2 := F0 m (pc + 3) la []) rfl ?_
  exact k H locs la cells slots hP hD hS hl h1 h2
theorem b_getA (hX : Bx d M X) {idx ci j q r i : Nat} {fs : List Value} (hd : Dc M pc (.getfield idx) 3 nx) (hf : FI M.1.cls idx ci j 2) (he : h[i]? = some (q, .inr (ci, fs))) (hv : fs[j]? = some (.ref r)) (k : BW X rc rs nx ls (mA r :: st) h) : BW X rc rs pc ls (mA q :: st) h := by
  obtain ⟨p, l, e, R, s, m, args, below, meth, c, tc, D, A, Z⟩ := X
  obtain ⟨hx, hb, hml, hr, hown, hts, hlk, hK, hA, hfr, hlo, hnw, hin⟩ := hX
  obtain ⟨hdg, rfl⟩ := hd
  intro H locs la cells slots hP hD hS hl h1 h2
  obtain ⟨C, T, N, hc, hj, hN, hk, hlink, -⟩ := hf
  have hin := (cl_facts ci C T N hc).1
  exact va_get (D := D) (ci := ci) (v := .ref r) hx hb hts hin hown hK hP i he hc j hj (hts _ hlink) (fun _ h9 => h9) hv hdg (k H locs la cells slots hP hD hS hl h1 h2)
def isRf : FieldType → Bool
  | .object _ => true
  | .array _ => true
  | _ => false
theorem isRf_ok {ty : FieldType} (h : isRf ty = true) (r : Nat) : narrow ty (.ref r) = .ref r ∧ fits ty (.ref r) = true := by
  cases ty <;> first | exact absurd h (by decide) | exact ⟨rfl, rfl⟩
theorem fin_0 : ∀ j, j < 2 → FK 0 j = 2 → (TX0 j).2.2.2 = true ∧ (TX0 j).1 = RX0 ∧ isRf (tyX0 j) = true := by decide +kernel
theorem fin_1 : ∀ j, j < 3 → FK 1 j = 2 → (TX1 j).2.2.2 = true ∧ (TX1 j).1 = RX1 ∧ isRf (tyX1 j) = true := by decide +kernel
theorem fin_2 : ∀ j, j < 6 → FK 2 j = 2 → (TX2 j).2.2.2 = true ∧ (TX2 j).1 = RX2 ∧ isRf (tyX2 j) = true := by decide +kernel
theorem fin_3 : ∀ j, j < 7 → FK 3 j = 2 → (TX3 j).2.2.2 = true ∧ (TX3 j).1 = RX3 ∧ isRf (tyX3 j) = true := by decide +kernel
theorem fin_4 : ∀ j, j < 5 → FK 4 j = 2 → (TX4 j).2.2.2 = true ∧ (TX4 j).1 = RX4 ∧ isRf (tyX4 j) = true := by decide +kernel
theorem fin_5 : ∀ j, j < 2 → FK 5 j = 2 → (TX5 j).2.2.2 = true ∧ (TX5 j).1 = RX5 ∧ isRf (tyX5 j) = true := by decide +kernel
theorem fin_6 : ∀ j, j < 12 → FK 6 j = 2 → (TX6 j).2.2.2 = true ∧ (TX6 j).1 = RX6 ∧ isRf (tyX6 j) = true := by decide +kernel
theorem fin_7 : ∀ j, j < 8 → FK 7 j = 2 → (TX7 j).2.2.2 = true ∧ (TX7 j).1 = RX7 ∧ isRf (tyX7 j) = true := by decide +kernel
theorem fin_8 : ∀ j, j < 37 → FK 8 j = 2 → (TX8 j).2.2.2 = true ∧ (TX8 j).1 = RX8 ∧ isRf (tyX8 j) = true := by decide +kernel
theorem fin_facts : ∀ (ci : Nat) (C : String) (T : u_T) (N : Nat), vwCl[ci]? = some (C, T, N) → ∀ j, j < N → FK ci j = 2 → (T j).2.2.2 = true ∧ (T j).1 = C ∧ ∃ ty, parseFieldDescriptor (T j).2.2.1 = some ty ∧ isRf ty = true
  | 0, _, _, _, h => by cases h; exact fun j h1 h2 => ⟨(fin_0 j h1 h2).1, (fin_0 j h1 h2).2.1, _, tyX0_ok j h1, (fin_0 j h1 h2).2.2⟩
  | 1, _, _, _, h => by cases h; exact fun j h1 h2 => ⟨(fin_1 j h1 h2).1, (fin_1 j h1 h2).2.1, _, tyX1_ok j h1, (fin_1 j h1 h2).2.2⟩
  | 2, _, _, _, h => by cases h; exact fun j h1 h2 => ⟨(fin_2 j h1 h2).1, (fin_2 j h1 h2).2.1, _, tyX2_ok j h1, (fin_2 j h1 h2).2.2⟩
  | 3, _, _, _, h => by cases h; exact fun j h1 h2 => ⟨(fin_3 j h1 h2).1, (fin_3 j h1 h2).2.1, _, tyX3_ok j h1, (fin_3 j h1 h2).2.2⟩
  | 4, _, _, _, h => by cases h; exact fun j h1 h2 => ⟨(fin_4 j h1 h2).1, (fin_4 j h1 h2).2.1, _, tyX4_ok j h1, (fin_4 j h1 h2).2.2⟩
  | 5, _, _, _, h => by cases h; exact fun j h1 h2 => ⟨(fin_5 j h1 h2).1, (fin_5 j h1 h2).2.1, _, tyX5_ok j h1, (fin_5 j h1 h2).2.2⟩
  | 6, _, _, _, h => by cases h; exact fun j h1 h2 => ⟨(fin_6 j h1 h2).1, (fin_6 j h1 h2).2.1, _, tyX6_ok j h1, (fin_6 j h1 h2).2.2⟩
  | 7, _, _, _, h => by cases h; exact fun j h1 h2 => ⟨(fin_7 j h1 h2).1, (fin_7 j h1 h2).2.1, _, tyX7_ok j h1, (fin_7 j h1 h2).2.2⟩
  | 8, _, _, _, h => by cases h; exact fun j h1 h2 => ⟨(fin_8 j h1 h2).1, (fin_8 j h1 h2).2.1, _, tyX8_ok j h1, (fin_8 j h1 h2).2.2⟩
  | k + 9, _, _, _, h => by simp [vwCl] at h
/-- a final field's reference, put by its own constructor; the object is the list's first -/
theorem b_putA (hX : Bx d M X) (hnm9 : M.1.name = "<init>") {idx ci j q r : Nat} {fs fs' : List Value} {B : va_W} (hd : Dc M pc (.putfield idx) 3 nx) (hf : FI M.1.cls idx ci j 2) (hcl : (vwCl[ci]?).map (fun x => x.1) = some M.1.cls) (hw : h = (q, .inr (ci, fs)) :: B) (hlen : j < fs.length) (hfs : fs.set j (.ref r) = fs') (k : BW X rc rs nx ls st ((q, .inr (ci, fs')) :: B)) : BW X rc rs pc ls (mA r :: mA q :: st) h := by
  subst hw
  subst hfs
  obtain ⟨p, l, e, R, s, m, args, below, meth, c, tc, D, A, Z⟩ := X
  obtain ⟨hx, hb, hml, hr, hown, hts, hlk, hK, hA, hfr, hlo, hnw, hin9⟩ := hX
  obtain ⟨hdg, rfl⟩ := hd
  intro H locs la cells slots hP hD hS hl h1 h2
  obtain ⟨C, T, N, hc, hj, hN, hk, hlink, -⟩ := hf
  obtain ⟨hin, hnm, ty0, hty⟩ := cl_facts ci C T N hc
  obtain ⟨f1, f2, ty, f3, f4⟩ := fin_facts ci C T N hc j hj hk
  rw [hc] at hcl
  have hcl : C = M.1.cls := Option.some.inj hcl
  exact va_putF (D := D) (ci := ci) (v := .ref r) (ty := ty) hx hb hts hin ty0 hty hnm hown hK hP hD hS 0 rfl hc j hj (hts _ hlink) (fun _ h9 => h9) f1 (hin9 hnm9) (f2.trans hcl) f3 (isRf_ok f4 r).1 (isRf_ok f4 r).2 hlen hdg (fun H1 locs1 hP1 hD1 hS1 => k H1 locs1 la cells slots hP1 hD1 hS1 hl h1 h2)
theorem b_putI (hX : Bx d M X) {idx ci j q kd : Nat} {v : Int} {fs : List Value} {B : va_W} (hd : Dc M pc (.putfield idx) 3 nx) (hf : FI M.1.cls idx ci j kd) (hkd : kd ≠ 2) (hnr : narrow (kty kd) (.int (Int32.ofInt v)) = .int (Int32.ofInt v)) (hft : fits (kty kd) (.int (Int32.ofInt v)) = true) (hw : h = (q, .inr (ci, fs)) :: B) (hlen : j < fs.length) (k : BW X rc rs nx ls st ((q, .inr (ci, fs.set j (.int (Int32.ofInt v)))) :: B)) : BW X rc rs pc ls (mI v :: mA q :: st) h := by
  subst hw
  obtain ⟨p, l, e, R, s, m, args, below, meth, c, tc, D, A, Z⟩ := X
  obtain ⟨hx, hb, hml, hr, hown, hts, hlk, hK, hA, hfr, hlo, hnw, hin9⟩ := hX
  obtain ⟨hdg, rfl⟩ := hd
  intro H locs la cells slots hP hD hS hl h1 h2
  obtain ⟨C, T, N, hc, hj, hN, hk, hlink, hq⟩ := hf
  obtain ⟨hin, hnm, ty0, hty⟩ := cl_facts ci C T N hc
  obtain ⟨hfin, hpd⟩ := hq hkd
  exact va_put (D := D) (ci := ci) (v := .int (Int32.ofInt v)) (ty := kty kd) hx hb hts hin ty0 hty hnm hown hK hP hD hS 0 rfl hc j hj (hts _ hlink) (fun _ h9 => h9) hfin hpd hnr hft hlen hdg (fun H1 locs1 hP1 hD1 hS1 => k H1 locs1 la cells slots hP1 hD1 hS1 hl h1 h2)
theorem b_alen (hX : Bx d M X) {q i t : Nat} {z : Int} {x : vp_A} {ty : FieldType} (hd : Dc M pc (.arraylength) 1 nx) (he : h[i]? = some (q, .inl (TC X t, x))) (ht : (TY (TC X))[t]? = some (TC X t, ty)) (hz : Int32.ofNat x.1 = Int32.ofInt z) (k : BW X rc rs nx ls (mI z :: st) h) : BW X rc rs pc ls (mA q :: st) h := by
  obtain ⟨p, l, e, R, s, m, args, below, meth, c, tc, D, A, Z⟩ := X
  obtain ⟨hx, hb, hml, hr, hown, hts, hlk, hK, hA, hfr, hlo, hnw, hin9⟩ := hX
  obtain ⟨hdg, rfl⟩ := hd
  intro H locs la cells slots hP hD hS hl h1 h2
  exact va_alen hx hb hK hP i t he ht hz hdg (k H locs la cells slots hP hD hS hl h1 h2)
theorem ra_fun {U : State} {a b : ClassId} {ty : FieldType} (h1 : va_RA U a ty) (h2 : va_RA U b ty) : a = b := by
  cases ty with
  | object C =>
    obtain ⟨_, _, -, -, -, g1⟩ := h1
    obtain ⟨_, _, -, -, -, g2⟩ := h2
    exact Option.some.inj (g1.symm.trans g2)
  | _ => exact Option.some.inj (Eq.trans (Eq.symm (show U.vm.findClass _ = some a from h1)) (show U.vm.findClass _ = some b from h2))
theorem K_last {D : va_G} {tys : List (ClassId × FieldType)} {a b : ClassId} {ty : FieldType} {s : State} {t : Nat} (h1 : va_K D vwCl (tys ++ [(a, ty)]) s) (ht : tys[t]? = some (b, ty)) : a = b := by
  refine ra_fun (h1.2 tys.length (a, ty) (by simp)).2 (h1.2 t (b, ty) ?_).2
  rw [List.getElem?_append_left (List.getElem?_eq_some_iff.mp ht).1]
  exact ht
theorem b_newa (hX : Bx d M X) {at9 : ArrayType} {ty : FieldType} {t n : Nat} {z : Int} {a0 : vp_A} (hd : Dc M pc (.newarray at9) 2 nx) (hty : newarray.typeOf at9 = ty) (ht : (TY (TC X))[t]? = some (TC X t, ty)) (hac : Cond.arrayClass ty ∈ TB) (ha : ∀ cA : ClassId, vp_cell cA a0 = arrV cA n (fun _ => defaultValue ty)) (hz : z = (n : Int) ∧ n < 100000) (hby : componentBytes ty ≤ 8) (k : ∀ q, BW X rc rs nx ls (mA q :: st) (h ++ [(q, .inl (TC X t, a0))])) : BW X (rc + 1) (rs + n) pc ls (mI z :: st) h := by
  obtain ⟨p, l, e, R, s, m, args, below, meth, c, tc, D, A, Z⟩ := X
  obtain ⟨hx, hb, hml, hr, hown, hts, hlk, hK, hA, hfr, hlo, hnw, hin9⟩ := hX
  obtain ⟨hdg, rfl⟩ := hd
  intro H locs la cells slots hP hD hS hl h1 h2
  obtain ⟨rfl, hn⟩ := hz
  refine va_newa (n := Int32.ofInt (n : Int)) (N' := n) hx hb (by rw [hty]; exact hts _ hac) hty hK hP hD hS hA ha ?_ ?_ ?_ (by omega) (by omega) hdg (fun q cA H1 hK1 hP1 hD1 hS1 => ?_)
  · rw [Int32.lt_iff_toInt_lt, oi_toInt ⟨by omega, by omega⟩]
    show ¬ ((n : Int) < 0)
    omega
  · rw [oi_clamp (by omega) (by omega)]
    exact Int.toNat_natCast n
  · exact Nat.le_trans (Nat.mul_le_mul (Nat.le_of_lt hn) hby) (by decide)
  · have e9 : cA = tc t := K_last hK1 ht
    subst e9
    exact k q H1 locs la (cells + 1) (slots + n) hP1 hD1 hS1 hl (by omega) (by omega)
theorem b_newq (hX : Bx d M X) {idx t n : Nat} {C : String} {z : Int} (hd : Dc M pc (.anewarray idx) 3 nx) (ht : (TY (TC X))[t]? = some (TC X t, .object C)) (hcl : Cond.classLink M.1.cls idx C ∈ TB) (hAO : ∀ s, NW s → va_AO C s) (hz : z = (n : Int) ∧ n < 100000) (k : ∀ q, BW X rc rs nx ls (mA q :: st) (h ++ [(q, .inl (TC X t, n, .inr (.inr (.inr (.inr (fun _ => none))))))])) : BW X (rc + 1) (rs + n) pc ls (mI z :: st) h := by
  obtain ⟨p, l, e, R, s, m, args, below, meth, c, tc, D, A, Z⟩ := X
  obtain ⟨hx, hb, hml, hr, hown, hts, hlk, hK, hA, hfr, hlo, hnw, hin9⟩ := hX
  obtain ⟨hdg, rfl⟩ := hd
  intro H locs la cells slots hP hD hS hl h1 h2
  obtain ⟨rfl, hn⟩ := hz
  refine va_newq (n := Int32.ofInt (n : Int)) (N' := n) hx hb hown (hts _ hcl) (hAO s hnw) hK hP hD hS hA ?_ ?_ ?_ (by omega) (by omega) hdg (fun q cA H1 hK1 hP1 hD1 hS1 => ?_)
  · rw [Int32.lt_iff_toInt_lt, oi_toInt ⟨by omega, by omega⟩]
    show ¬ ((n : Int) < 0)
    omega
  · rw [oi_clamp (by omega) (by omega)]
    exact Int.toNat_natCast n
  · exact Nat.le_trans (Nat.mul_le_mul (Nat.le_of_lt hn) (Nat.le_refl 4)) (by decide)
  · have e9 : cA = tc t := K_last hK1 ht
    subst e9
    exact k q H1 locs la (cells + 1) (slots + n) hP1 hD1 hS1 hl (by omega) (by omega)
theorem b_new (hX : Bx d M X) {idx ci N : Nat} {C : String} {T : u_T} {ty : Nat → FieldType} {fs : List Value} (hd : Dc M pc (.new idx) 3 nx) (hc : vwCl[ci]? = some (C, T, N)) (hty : ∀ k, k < N → parseFieldDescriptor (T k).2.2.1 = some (ty k)) (hcl : Cond.classLink M.1.cls idx C ∈ TB) (hinst : Cond.instantiable C N ∈ TB) (hini : Cond.initialized C ∈ TB) (hfs : (List.range N).map (fun j => defaultValue (ty j)) = fs) (k : ∀ q, BW X rc rs nx ls (mA q :: st) (h ++ [(q, .inr (ci, fs))])) : BW X (rc + 1) (rs + N) pc ls st h := by
  obtain ⟨p, l, e, R, s, m, args, below, meth, c, tc, D, A, Z⟩ := X
  obtain ⟨hx, hb, hml, hr, hown, hts, hlk, hK, hA, hfr, hlo, hnw, hin9⟩ := hX
  obtain ⟨hdg, rfl⟩ := hd
  intro H locs la cells slots hP hD hS hl h1 h2
  obtain ⟨hin, -⟩ := cl_facts ci C T N hc
  refine va_new (ci := ci) (fs := fs) (C := C) (T := T) (N := N) hx hb hts hin ty hty hown (hts _ hcl) (hts _ hinst) (hts _ hini) hK hP hD hS hA hc (fun j hj => ?_) (by omega) (by omega) hdg (fun q H1 hP1 hD1 hS1 => ?_)
  · subst hfs
    simp [vp_V, hj]
  · exact k q H1 locs la (cells + 1) (slots + N) hP1 hD1 hS1 hl (by omega) (by omega)
theorem set_mid {α : Type} (A : List α) (x y : α) (B : List α) : (A ++ x :: B).set A.length y = A ++ y :: B := by
  induction A with
  | nil => rfl
  | cons a A ih => exact congrArg (fun z => a :: z) ih
theorem get_mid {α : Type} (A : List α) (x : α) (B : List α) : (A ++ x :: B)[A.length]? = some x := by
  rw [List.getElem?_append_right (Nat.le_refl _), Nat.sub_self]
  rfl
theorem b_iast (hX : Bx d M X) {q n : Nat} {i v : Int} {f : Nat → Int32} (A9 B9 : va_W) (hd : Dc M pc (.iastore) 1 nx) (hw : h = A9 ++ (q, .inl (TC X 0, n, .inl f)) :: B9) (hi : 0 ≤ i ∧ i < n) (hn : n < 100000) (k : BW X rc rs nx ls st (A9 ++ (q, .inl (TC X 0, n, .inl (upd f i.toNat (Int32.ofInt v)))) :: B9)) : BW X rc rs pc ls (mI v :: mI i :: mA q :: st) h := by
  subst hw
  obtain ⟨p, l, e, R, s, m, args, below, meth, c, tc, D, A, Z⟩ := X
  obtain ⟨hx, hb, hml, hr, hown, hts, hlk, hK, hA, hfr, hlo, hnw, hin9⟩ := hX
  obtain ⟨hdg, rfl⟩ := hd
  intro H locs la cells slots hP hD hS hl h1 h2
  have ec := oi_clamp hi.1 (by omega)
  refine va_iast hx hb hK hP hD hS A9.length 0 (get_mid A9 _ B9) rfl (i := Int32.ofInt i) (x := Int32.ofInt v) (oi_in hi.1 hi.2 (by omega)) hdg (fun H1 locs1 hP1 hD1 hS1 => ?_)
  rw [set_mid, ec] at hP1 hD1
  exact k H1 locs1 la cells slots hP1 hD1 hS1 hl h1 h2
theorem b_astq (hX : Bx d M X) {q n v t ci : Nat} {i : Int} {r : vw_C} {vs : List Value} {f : Nat → Option Nat} (A9 B9 : va_W) (hd : Dc M pc (.aastore) 1 nx) (hw : h = A9 ++ (q, .inl (TC X t, n, .inr (.inr (.inr (.inr f))))) :: B9) (ht : (TY (TC X))[t]? = some (TC X t, .object r.1)) (hv : (v, (.inr (ci, vs) : va_E)) ∈ h) (hc : vwCl[ci]? = some r) (hi : 0 ≤ i ∧ i < n) (hn : n < 100000) (k : BW X rc rs nx ls st (A9 ++ (q, .inl (TC X t, n, .inr (.inr (.inr (.inr (va_up f i.toNat (some v))))))) :: B9)) : BW X rc rs pc ls (mA v :: mI i :: mA q :: st) h := by
  subst hw
  obtain ⟨p, l, e, R, s, m, args, below, meth, c, tc, D, A, Z⟩ := X
  obtain ⟨hx, hb, hml, hr, hown, hts, hlk, hK, hA, hfr, hlo, hnw, hin9⟩ := hX
  obtain ⟨hdg, rfl⟩ := hd
  intro H locs la cells slots hP hD hS hl h1 h2
  have ec := oi_clamp hi.1 (by omega)
  obtain ⟨qk, hqk⟩ := List.getElem?_of_mem hv
  refine va_astq hx hb hK hP hD hS A9.length t qk ci (get_mid A9 _ B9) ht hqk hc (i := Int32.ofInt i) (oi_in hi.1 hi.2 (by omega)) hdg (fun H1 locs1 hP1 hD1 hS1 => ?_)
  rw [set_mid, ec] at hP1 hD1
  exact k H1 locs1 la cells slots hP1 hD1 hS1 hl h1 h2
theorem nd_app : ∀ (l : List Nat) (b : Nat), va_nd l = true → b ∉ l → va_nd (l ++ [b]) = true
  | [], b, _, _ => by simp [va_nd]
  | a :: l, b, h, hb => by
    simp only [va_nd, Bool.and_eq_true, decide_eq_true_eq] at h
    simp only [List.mem_cons, not_or] at hb
    simp only [List.cons_append, va_nd, Bool.and_eq_true, decide_eq_true_eq, List.mem_append, List.mem_singleton, not_or]
    exact ⟨⟨h.1, fun e => hb.1 e.symm⟩, nd_app l b h.2 hb.2⟩
theorem nd_range (n : Nat) : va_nd (List.range n) = true := by
  induction n with
  | zero => rfl
  | succ n ih =>
    rw [List.range_succ]
    exact nd_app _ _ ih (by simp)
theorem range_get {α : Type} (w B : List α) : (List.range w.length).map (fun i => (w ++ B)[i]?) = w.map some := by
  apply List.ext_getElem?
  intro i
  by_cases hi : i < w.length
  · simp [hi, List.getElem?_append_left]
  · simp [hi]
theorem b_join {D : va_G} {A : Nat → Prop} {w w1 : va_W} {q : Nat} {e0 : va_E} {H H1 : Heap} (hP : va_P D vwCl (w ++ [(q, e0)]) H) (hD : va_D A (w ++ [(q, e0)])) (hk : ∀ z : Nat, z < H.size → ¬ va_A [(q, e0)] H.size z → H1[z]? = H[z]?) (hF : ∀ z, va_A [(q, e0)] H.size z → A z) (hP1 : va_P D vwCl w1 H1) (hD1 : va_D (va_A [(q, e0)] H.size) w1) : va_P D vwCl (w ++ w1) H1 ∧ va_D A (w ++ w1) :=
  va_join (wc := [(q, e0)]) hP hD [w.length] (List.range w.length) (by simp) (range_get w _) (nd_range _) (fun i hi => by simp at hi ⊢; omega) hk hF hP1 hD1
theorem b_sub {D : va_G} {A : Nat → Prop} {w : va_W} {q : Nat} {e0 : va_E} {H : Heap} (hP : va_P D vwCl (w ++ [(q, e0)]) H) (hD : va_D A (w ++ [(q, e0)])) : va_P D vwCl [(q, e0)] H ∧ va_D A [(q, e0)] ∧ A q :=
  ⟨hP.sub [w.length] (by simp), hD.sub [w.length] (by simp [va_nd]) (by simp), hD.2 w.length (q, e0) (by simp)⟩
theorem b_after {p : Program} {l : Launch} {e : Env} {R : Room} {s : State} {m : MethodId} {args : Array Value} {below : List Frame} {meth : Method} {c : Code} {D : va_G} {A : Nat → Prop} {Z : State → Prop} {H : Heap} {locs : List Loc} {cells slots mc ms q : Nat} {e0 : va_E} {w : va_W} {Q : va_W → Prop} {la : Array Slot} {rest st0 : List Value} {a : Array Value} (hP : va_P D vwCl (w ++ [(q, e0)]) H) (hD : va_D A (w ++ [(q, e0)])) (hS : va_S A s.heap H locs) (hF : ∀ z, va_A [(q, e0)] H.size z → A z)
    (hr : va_Run p l e R s m args below meth c H locs cells slots mc ms (F0 m pc la st0) rest (QI D (va_A [(q, e0)] H.size) Q a) (va_A [(q, e0)] H.size))
    (kk : ∀ (w1 : va_W) (H1 : Heap) (locs1 : List Loc), Q w1 → va_P D vwCl (w ++ w1) H1 → va_D A (w ++ w1) → va_S A s.heap H1 locs1 → W p l e R s m args below meth c H1 locs1 (cells + mc) (slots + ms) Z (F0 m (pc + 3) la rest)) : W p l e R s m args below meth c H locs cells slots Z (F0 m pc la st0) := by
  intro T hT X
  obtain ⟨v, st₀, t, T', L, h0, X', hL, e1, e2, ⟨⟨w1, hv, hq, hP1, hD1⟩, hz, hk⟩, st⟩ := hr T hT X
  cases hv
  rw [h0] at hz hk
  obtain ⟨j1, j2⟩ := b_join (H1 := t.heap) hP hD hk hF hP1 hD1
  obtain ⟨t2, a1, b1⟩ := kk w1 T'.heap (locs ++ L) hq (by rw [e1]; exact j1) j2
    ⟨Nat.le_trans hS.1 (by rw [e1]; exact hz), fun z h1 h2 => by rw [e1, hk z (Nat.lt_of_lt_of_le h1 hS.1) (fun y => h2 (hF z y))]; exact hS.2.1 z h1 h2, fun z hz => by
      rcases List.mem_append.mp hz with h | h
      · exact hS.2.2 z h
      · exact hF _ (hL z h)⟩ T' rfl X'
  exact ⟨t2, st t2 a1, b1⟩
theorem b_free {A : Nat → Prop} {q : Nat} {e0 : va_E} {H0 H : Heap} {locs : List Loc} (hq : A q) (hS : va_S A H0 H locs) (hA : ∀ z, H0.size ≤ z → A z) : ∀ z, va_A [(q, e0)] H.size z → A z := by
  intro z hz
  rcases hz with ⟨k, e, hk⟩ | hz
  · match k, hk with
    | 0, hk => cases hk; exact hq
    | k + 1, hk => simp at hk
  · exact hA z (Nat.le_trans hS.1 hz)
theorem b_init (hX : Bx (d + 1) M X) {idx q mc ms : Nat} {e0 : va_E} {Q : (Nat → ClassId) → Nat → va_W → Prop} (hd : Dc M pc (.invokespecial idx) 3 nx) (hM : MOK M') (hl1 : Cond.methodLink M.1.cls idx M'.1 ∈ TB) (him : Cond.instanceMethod M'.1 ∈ TB) (hini : Cond.initialized M'.1.cls ∈ TB) (hnm : M'.1.name = "<init>") (hret : M'.2.2.2.1 = none) (h0 : M'.2.2.2.2 = 0) (hst : (st.map mcat).sum ≤ 8) (hc : CtI d M' e0 mc ms Q) {w : va_W} (hw : h = w ++ [(q, e0)]) (k : ∀ w1, Q (TC X) q w1 → BW X rc rs nx ls st (w ++ w1)) : BW X (rc + mc) (rs + ms) pc ls (mA q :: st) h := by
  subst hw
  obtain ⟨p, l, e, R, s, m, args, below, meth, c, tc, D, A, Z⟩ := X
  obtain ⟨hx, hb, hml, hr, hown, hts, hlk, hK, hA, hfr, hlo, hnw, hin9⟩ := hX
  obtain ⟨hdg, rfl⟩ := hd
  obtain ⟨y, by9, ml, ret, n⟩ := M'
  have hret : ret = none := hret
  have h0 : n = 0 := h0
  subst hret
  subst h0
  obtain ⟨hM1, hM2, hM3, hM4, hM5, hM6⟩ := id hM
  intro H locs la cells slots hP hD hS hl h1 h2
  obtain ⟨hP1, hD1, hAq⟩ := b_sub hP hD
  have hF := b_free (e0 := e0) hAq hS hA
  have hM3 : ml ≤ 40 := hM3
  refine b_after (mc := mc) (ms := ms) hP hD hS hF (va_runI (As := []) (rest := st.map (conc id)) (b := q) (ws := wsM (y, by9, ml, none, 0)) (rm := rmI d mc ms) (n := 0) ⟨hx, hb, hml, hown, hts⟩ (hc l tc D q H.size) (cwI 0 hts (wsM_good hM) rfl rfl rfl (hts _ hini) (hts _ hl1) (hts _ him) hnm ⟨hM4, hM5, hM6⟩ ⟨hfr, by show 8 + (ml + 11) + (64 * d + 20) ≤ R.locals; omega⟩)
    ⟨PI_blind, fun U hU hW => ⟨rfl, by rw [hU], by rw [hU]; exact hP1, va_K.moved hW.alike hK, hD1.weaken (fun _ _ _ _ => trivial), hnw.warm hW⟩⟩ rfl rfl (hl.1.trans hml) rfl (lv_room (st_room hst)) hdg ⟨by omega, by omega⟩) (fun w1 H1 locs1 hq hP2 hD2 hS2 => ?_)
  exact k w1 hq H1 locs1 la (cells + mc) (slots + ms) hP2 hD2 hS2 hl (by omega) (by omega)
theorem b_initN (hX : Bx (d + 1) M X) {idx q mc ms : Nat} {e0 : va_E} {Q : (Nat → ClassId) → Nat → va_W → Prop} (hd : Dc M pc (.invokespecial idx) 3 nx) (hM : MOK M') (hl1 : Cond.methodLinkNest M.1.cls idx M'.1 RX7 ∈ NWL) (him : Cond.instanceMethod M'.1 ∈ TB) (hini : Cond.initialized M'.1.cls ∈ TB) (hnm : M'.1.name = "<init>") (hret : M'.2.2.2.1 = none) (h0 : M'.2.2.2.2 = 0) (hst : (st.map mcat).sum ≤ 8) (hc : CtI d M' e0 mc ms Q) {w : va_W} (hw : h = w ++ [(q, e0)]) (k : ∀ w1, Q (TC X) q w1 → BW X rc rs nx ls st (w ++ w1)) : BW X (rc + mc) (rs + ms) pc ls (mA q :: st) h := by
  subst hw
  obtain ⟨p, l, e, R, s, m, args, below, meth, c, tc, D, A, Z⟩ := X
  obtain ⟨hx, hb, hml, hr, hown, hts, hlk, hK, hA, hfr, hlo, hnw, hin9⟩ := hX
  obtain ⟨hdg, rfl⟩ := hd
  obtain ⟨y, by9, ml, ret, n⟩ := M'
  have hret : ret = none := hret
  have h0 : n = 0 := h0
  subst hret
  subst h0
  obtain ⟨hM1, hM2, hM3, hM4, hM5, hM6⟩ := id hM
  intro H locs la cells slots hP hD hS hl h1 h2
  obtain ⟨hP1, hD1, hAq⟩ := b_sub hP hD
  have hF := b_free (e0 := e0) hAq hS hA
  have hM3 : ml ≤ 40 := hM3
  refine b_after (mc := mc) (ms := ms) hP hD hS hF (va_runIN (As := []) (rest := st.map (conc id)) (b := q) (ws := wsM (y, by9, ml, none, 0)) (rm := rmI d mc ms) (n := 0) (host := RX7) ⟨hx, hb, hml, hown, hts⟩ (hc l tc D q H.size) ⟨va_cnB 0 hts (wsM_good hM) rfl rfl rfl (hnw.1 _ hl1) (hts _ hini) ⟨hM4, hM5, hM6⟩ ⟨hfr, by show 8 + (ml + 11) + (64 * d + 20) ≤ R.locals; omega⟩, hnm, hts _ him⟩
    ⟨PI_blind, fun U hU hW => ⟨rfl, by rw [hU], by rw [hU]; exact hP1, va_K.moved hW.alike hK, hD1.weaken (fun _ _ _ _ => trivial), hnw.warm hW⟩⟩ rfl rfl (hl.1.trans hml) rfl (lv_room (st_room hst)) hdg ⟨by omega, by omega⟩) (fun w1 H1 locs1 hq hP2 hD2 hS2 => ?_)
  exact k w1 hq H1 locs1 la (cells + mc) (slots + ms) hP2 hD2 hS2 hl (by omega) (by omega)
end BUILD
