section VTHROW
/-! a method that throws, and the law's two that catch -/
theorem nsb_tab : ∀ w ∈ NSB, w.onTables = true := by decide +kernel
def NSW (U : State) : Prop := ∀ w ∈ NSB, va_Nw w U
theorem NSW.warm {s U : State} (hW : s.WarmedH U.vm) (h : NSW s) : NSW U := by
  intro w hw
  have hv := h w hw
  simp only [NSB, List.mem_cons, List.not_mem_nil, or_false] at hw
  rcases hw with rfl | rfl | rfl | rfl
  · exact va_Nw.warmD hW hv
  · exact va_Nw.warmD hW hv
  · exact va_Nw.warmD hW hv
  · exact va_Nw.warmC hW hv
theorem NSW.same {u U : State} (e : u.vm = U.vm) (h : NSW u) : NSW U := fun w hw => va_Nw.same (nsb_tab w hw) e (h w hw)
def TH (A : Nat → Prop) (s : State) (H : Heap) : Prop := NSW s ∧ vx_Zq Bundle.tN "UNASSIGNED_STACK" Bundle.steD A s H ∧ vx_Zq Bundle.tN "SUPPRESSED_SENTINEL" Bundle.listD A s H
theorem TH.to {A B : Nat → Prop} {s U : State} {H : Heap} {locs : List Loc} (h : TH A s s.heap) (hS : va_S A s.heap H locs) (hAB : ∀ q, B q → A q) (hW : s.WarmedH U.vm) (hU : U.heap = H) : TH B U U.heap := by
  obtain ⟨h1, h2, h3⟩ := h
  rw [hU]
  exact ⟨h1.warm hW, ((h2.kept (fun a q1 q2 => hS.2.1 a q1 q2)).narrow hAB).moved hW.alike, ((h3.kept (fun a q1 q2 => hS.2.1 a q1 q2)).narrow hAB).moved hW.alike⟩
def PBX (al : Nat → Nat) (tc : Nat → ClassId) (D : va_G) (h : Hp) (sz : Nat) : State → Prop := fun U => PB al tc D h sz U ∧ TH (va_A (WS al tc h) sz) U U.heap
theorem PBX_blind {as : List Value} {al : Nat → Nat} {tc : Nat → ClassId} {D : va_G} {h : Hp} {sz : Nat} : FrameBlind (va_Pc as (PBX al tc D h sz)) :=
  fun a U g mk q => by
    obtain ⟨q0, ⟨q1, qP, qK, qD, qN⟩, t1, t2, t3⟩ := q
    exact ⟨q0, ⟨q1, qP, va_K.moved (u := U) (U := U.calling g mk a) (Vm.Alike.refl U.vm) qK, qD, va_Nw.same (by rfl) rfl qN⟩, NSW.same (u := U) (U := U.calling g mk a) (by rfl) t1, t2.moved (Vm.Alike.refl U.vm), t3.moved (Vm.Alike.refl U.vm)⟩
def XCF (al : Nat → Nat) (tc : Nat → ClassId) (D : va_G) (h : Hp) (sz : Nat) : String → State → State → Prop := fun E st t => E = RNS ∧ va_P D vwCl (WS al tc h) t.heap ∧ va_K D vwCl (TY tc) t ∧ va_D (va_A (WS al tc h) sz) (WS al tc h) ∧ va_F (va_A (WS al tc h) sz) st t
def rmX (d : Nat) : Room := { frames := d, cells := 1, slots := 6, locals := 64 * d + 20 }
def Tz (h : Hp) (X : CT) : Prop := match X with
  | (_, l, _, R, s, _, args, below, _, c, al, tc, D, A, Z, rc, rs) => l.stackTraces = false ∧ (∀ x ∈ c.exceptionTable.toList, False) ∧ TH A s s.heap ∧ A = va_A (WS al tc h) s.heap.size ∧ Z = vx_MQ below (fun _ _ _ _ => False) (XCF al tc D h s.heap.size) args s 1 6 A ∧ rc = 1 ∧ rs = 6 ∧ R.cells = 1 ∧ R.slots = 6
def CtT (d : Nat) (M : MT) (as : List MV) (h : Hp) : Prop := ∀ (l : Launch) (al : Nat → Nat) (tc : Nat → ClassId) (D : va_G) (sz : Nat), l.stackTraces = false → vx_Met l M.1 (wsM M) (rmX d) (va_Pc (as.map (conc al)) (PBX al tc D h sz)) (fun _ _ _ _ => False) (XCF al tc D h sz) 1 6 (va_A (WS al tc h) sz)
variable {d : Nat} {M M' : MT} {pc nx : Nat} {ls : List (Option MV)} {st as : List MV} {h : Hp} {Q : Option MV → Hp → Prop}
theorem throwOf (hM : MOK M) (hn : (as.map mcat).sum ≤ M.2.2.1) (hc : ∀ X, Cx d M X → Tz h X → VW X 0 (entL as M.2.2.1) [] h) : CtT d M as h := by
  intro l al tc D sz hl
  refine vx_ofW (cc := M.2.1) (maxL := M.2.2.1) (ret := M.2.2.2.1) hM.1 rfl ?_
  intro p e s m args below meth c s₁ B hml hout hv
  obtain ⟨rfl, ⟨hsz, hP, hK, hD0, hne⟩, hth⟩ := hv
  have hts0 := atoms_spec (ws := wsM M) B.pre
  subst hsz
  have hD := hD0.self (sz := s.heap.size)
  rw [lg_entry_eq]
  have hl2 := lv_entry (as.map (conc al)) (n := M.2.2.1) (by rw [sl_len]; exact hn)
  have hcx : Cx d M (p, l, e, rmX d, s, m, (as.map (conc al)).toArray, below, meth, c, al, tc, D, va_A (WS al tc h) s.heap.size, vx_MQ below (fun _ _ _ _ => False) (XCF al tc D h s.heap.size) (as.map (conc al)).toArray s 1 6 (va_A (WS al tc h) s.heap.size), 1, 6) :=
    ⟨B.exec, B.bytes, hml, B.returns, findClass_of_methodNamed B.named, fun w hw => hts0 w (List.mem_cons_of_mem _ hw), B.notSynchronized, hK, fun q hq => Or.inr hq, Nat.le_refl _, Nat.le_refl _, hne⟩
  exact hc _ hcx ⟨hl, hout, hth, rfl, rfl, rfl, rfl, rfl, rfl⟩ s.heap [] _ 0 0 hP hD va_S.rf ⟨by rw [hml]; exact hl2.1, hl2.2.1, fun i v hi => by
    have := hl2.2.2 _ (entL_ok al as M.2.2.1 i 0 v hi)
    simpa using this⟩ (Nat.le_refl _) (Nat.le_refl _)
theorem va_P.lt9 {D : va_G} {cl : List vw_C} {ws : va_W} {H : Heap} (h : va_P D cl ws H) {k : Nat} {q : Nat × va_E} (hk : ws[k]? = some q) : q.1 < H.size := by
  have := h k q hk
  obtain ⟨a, e⟩ := q
  rcases e with e | e
  · exact (Array.getElem?_eq_some_iff.mp (show H[a]? = _ from this)).1
  · obtain ⟨q', h1, cell, g1, -⟩ := this
    exact (Array.getElem?_eq_some_iff.mp g1).1
theorem v_throw {X : CT} (hX : Cx (d + 6) M X) (hT : Tz h X) (hown7 : M.1.cls = RX7) (d0 : Dc M pc (.new 125) 3 (pc + 3)) (d3 : Dc M (pc + 3) (.dup) 1 (pc + 4)) (d4 : Dc M (pc + 4) (.invokespecial 127) 3 (pc + 7)) (d7 : Dc M (pc + 7) (.athrow) 1 (pc + 8)) (hst : (st.map mcat).sum ≤ 8) : VW X pc ls st h := by
  obtain ⟨p, l, e, R, s, m, args, below, meth, c, al, tc, D, A, Z, rc, rs⟩ := X
  obtain ⟨hx, hb, hml, hr, hown, hts, hlk, hK, hA, hfr, hlo, hne⟩ := hX
  obtain ⟨hl, hout, ⟨hns, hU, hN⟩, hAe, hZ, hrc, hrs, hc1, hs6⟩ := hT
  subst hZ
  subst hrc
  subst hrs
  intro H locs la cells slots hP hD hS hlh h1 h2
  have hr8 := st_room (al := al) hst
  refine vx_throw0 (own := RX7) (cls := RNS) (names := NSn) (ik := 125) (ic := 127) hx hb hl (by rw [← hown7]; exact hown) (by decide +kernel) (by decide +kernel) (hts _ ns_link) (hts _ ns_ini)
    (vx_hat (fun w hw => hts w (at0_good w hw)) (fun w hw => by rw [at0_bad] at hw; exact hw) (fun w hw => va_Nw.use (nsb_tab w hw) (hns w hw))) (by decide +kernel) hU hN hS hlh.1 d0.1 d3.1 d4.1 d7.1 (fun x hx => (hout x hx).elim) (by show 2 + 3 < R.frames; omega) (by show _ + (13 * (2 + 1) + 42) ≤ _; omega) (by omega) (by omega) hlk
    (fun t ht hsz hq => ⟨rfl, hP.kept (fun k q hk => hq q.1 (hP.lt9 hk)), va_K.moved ht hK, by rw [← hAe]; exact hD, ⟨Nat.le_trans hS.1 hsz, fun q q1 q2 => (hq q (Nat.lt_of_lt_of_le q1 hS.1)).trans (hS.2.1 q q1 (by rw [hAe]; exact q2))⟩⟩) hS.2.2 (by omega) (by omega)
/-- the call of a method that throws: on to this method's handlers -/
theorem v_callT {p : Program} {l : Launch} {e : Env} {R : Room} {s : State} {m : MethodId} {args : Array Value} {below : List Frame} {meth : Method} {c : Code} {al : Nat → Nat} {tc : Nat → ClassId} {D : va_G} {A : Nat → Prop} {Z : State → Prop} {rc rs : Nat}
    (hX : Cx (d + 1) M (p, l, e, R, s, m, args, below, meth, c, al, tc, D, A, Z, rc + 1, rs + 6)) (hl0 : l.stackTraces = false) (hth : TH A s s.heap) {idx q ci : Nat} (hd : Dc M pc (.invokevirtual idx) 3 nx) (hl : LVk M.1.cls idx M') (hM : MOK M') (ho : OB q ci) (hC : (vwCl[ci]?).map (fun x => x.1) = some M'.1.cls) (hn : as.length = M'.2.2.2.2 ∧ ((mA q :: as).map mcat).sum ≤ M'.2.2.1) (hst : (st.map mcat).sum ≤ 8)
    (hc : CtT d M' (mA q :: as) h) {stk : List MV} (hs : stk = as.reverse ++ mA q :: st)
    (kk : ∀ (H : Heap) (locs : List Loc) (la : Array Slot) (cells slots : Nat) (ce : Cell) (q9 : Addr), va_P D vwCl (WS al tc h) H → va_D A (WS al tc h) → va_S A s.heap H locs → LH al ls la c.maxLocals → cells + rc ≤ R.cells → slots + rs ≤ R.slots → H[q9]? = some ce → ce.vm = .none → s.vm.findClass RNS = some ce.cls →
      vx_W p l e R s m args below meth c H locs cells slots Z (F0 m pc la (st.map (conc al))) q9) : VW (p, l, e, R, s, m, args, below, meth, c, al, tc, D, A, Z, rc + 1, rs + 6) pc ls stk h := by
  subst hs
  obtain ⟨hx, hb, hml, hr, hown, hts, hlk, hK, hA, hfr, hlo, hne⟩ := hX
  obtain ⟨hdg, rfl⟩ := hd
  intro H locs la cells slots hP hD hS hlh h1 h2
  obtain ⟨hl1, hl2, hl3, hl4⟩ := hl
  obtain ⟨hM1, hM2, hM3, hM4, hM5, hM6⟩ := id hM
  obtain ⟨C, hC1, hC2⟩ := Option.map_eq_some_iff.mp hC
  have hF := wfree hD hS hA
  have hr := vx_runV (p := p) (l := l) (e := e) (R := R) (s := s) (m := m) (args := args) (below := below) (meth := meth) (c := c) (H := H) (locs := locs) (cells := cells) (slots := slots) (g := F0 m pc la ((as.reverse ++ mA q :: st).map (conc al))) (As := as.map (conc al)) (rest := st.map (conc al)) (b := al q) (C := M'.1.cls) (ws := wsM M') (rm := rmX d) (n := M'.2.2.2.2) ⟨hx, hb, hml, hown, hts⟩ (hc l al tc D H.size hl0)
    (cwV M'.2.2.2.2 hts (good_app hM (fun w hw => by
      simp only [List.mem_cons, List.not_mem_nil, or_false] at hw
      rcases hw with rfl | rfl | rfl | rfl
      · exact hl1
      · exact hl2
      · exact hl3
      · exact hl4)) rfl rfl rfl ⟨rfl, hM4, hM5, hM6⟩ ⟨hfr, by show 8 + (M'.2.2.1 + 11) + (64 * d + 20) ≤ R.locals; omega⟩)
    ⟨PBX_blind, by rw [← hC2]; exact va_recv hK hP hC1 ho.cell, fun U hU hW => ⟨rfl, ⟨by rw [hU], by rw [hU]; exact hP, va_K.moved hW.alike hK, hD.weaken (fun _ _ _ _ => trivial), va_Nw.warmM hW hne⟩, hth.to hS hF hW hU⟩⟩ rfl (by simp [hn.1]) (hlh.1.trans hml) (by simp [F0, List.map_append, List.map_reverse, conc]) (lv_room (st_room hst)) hdg ⟨by omega, by omega⟩
  intro T hT X
  rcases hr T hT X with ⟨v, st₀, t, T', L, h0, X', hL, e1, e2, hq, sp⟩ | ⟨q9, st₀, t, T', L, E, ce, h0, X', hL, e1, e2, ⟨hE, xP, xK, xD, xF⟩, hce, hcv, hcl, sp⟩
  · exact hq.elim
  · subst hE
    obtain ⟨k1, k2, k3⟩ := vx_keep h0 e1 hS (fun q _ h => hF q h) hF hL xF
    obtain ⟨t2, a1, b1⟩ := kk T'.heap (locs ++ L) la (cells + 1) (slots + 6) ce q9 (by rw [e1]; exact xP) hD k3 hlh (by omega) (by omega) (by rw [e1]; exact hce) hcv hcl T' rfl X'
    exact ⟨t2, sp.trans a1, b1⟩
/-! the law's own methods, with a handler each -/
def wsX (M : MT) (hh : List (Nat × Nat × Nat × Nat)) : List Cond := Cond.codeWith M.1 M.2.1 M.2.2.1 M.2.2.2.1 hh :: TB
def CtL (d : Nat) (M : MT) (hh : List (Nat × Nat × Nat × Nat)) (as : List MV) (h : Hp) (Q : Option MV → Hp → Prop) : Prop := ∀ (l : Launch) (al : Nat → Nat) (tc : Nat → ClassId) (D : va_G) (sz : Nat), l.stackTraces = false → Met l M.1 (wsX M hh) (rmX d) (va_Pc (as.map (conc al)) (PBX al tc D h sz)) (QV al tc D (va_A (WS al tc h) sz) Q) 1 6 (va_A (WS al tc h) sz)
def Lz (hh : List (Nat × Nat × Nat × Nat)) (X : CT) : Prop := match X with
  | (_, l, _, R, s, _, _, _, _, c, _, _, _, A, _, rc, rs) => l.stackTraces = false ∧ c.exceptionTable.toList = tableOf hh ∧ TH A s s.heap ∧ rc = 1 ∧ rs = 6 ∧ R.cells = 1 ∧ R.slots = 6
theorem lawOf {hh : List (Nat × Nat × Nat × Nat)} (hpl : plainName M.1.cls = true) (hn : (as.map mcat).sum ≤ M.2.2.1) (hc : ∀ X, Cx d M X → Lz hh X → Rt Q X → VW X 0 (entL as M.2.2.1) [] h) : CtL d M hh as h Q := by
  intro l al tc D sz hl
  refine va_MetW (cc := M.2.1) (maxL := M.2.2.1) (ret := M.2.2.2.1) (hh := hh) hpl rfl ?_
  intro p e s m args below meth c s₁ B hml hv
  obtain ⟨rfl, ⟨hsz, hP, hK, hD0, hne⟩, hth⟩ := hv
  have hts0 := atoms_spec (ws := wsX M hh) B.pre
  have htab := vx_table (x := M.1) B (hts0 _ List.mem_cons_self)
  subst hsz
  have hD := hD0.self (sz := s.heap.size)
  rw [lg_entry_eq]
  have hl2 := lv_entry (as.map (conc al)) (n := M.2.2.1) (by rw [sl_len]; exact hn)
  have hcx : Cx d M (p, l, e, rmX d, s, m, (as.map (conc al)).toArray, below, meth, c, al, tc, D, va_A (WS al tc h) s.heap.size, MQ below (QV al tc D (va_A (WS al tc h) s.heap.size) Q) (as.map (conc al)).toArray s 1 6 (va_A (WS al tc h) s.heap.size), 1, 6) :=
    ⟨B.exec, B.bytes, hml, B.returns, findClass_of_methodNamed B.named, fun w hw => hts0 w (List.mem_cons_of_mem _ hw), B.notSynchronized, hK, fun q hq => Or.inr hq, Nat.le_refl _, Nat.le_refl _, hne⟩
  exact hc _ hcx ⟨hl, htab, hth, rfl, rfl, rfl, rfl⟩ rfl s.heap [] _ 0 0 hP hD va_S.rf ⟨by rw [hml]; exact hl2.1, hl2.2.1, fun i v hi => by
    have := hl2.2.2 _ (entL_ok al as M.2.2.1 i 0 v hi)
    simpa using this⟩ (Nat.le_refl _) (Nat.le_refl _)
theorem va_callQm {p : Program} {l : Launch} {e : Env} {R : Room} {s : State} {m : MethodId} {args : Array Value} {below : List Frame} {meth : Method} {c : Code} {H : Heap} {locs : List Loc} {cells slots mc ms : Nat} {Z : State → Prop} {pc : Nat} {ls : Array Slot} {rest st0 : List Value} {a : Array Value} {A0 A1 : Nat → Prop} {H0 : Heap}
    {al : Nat → Nat} {tc : Nat → ClassId} {D : va_G} {Q : Option MV → Hp → Prop}
    (hr : va_Run p l e R s m args below meth c H locs cells slots mc ms (F0 m pc ls st0) rest (QV al tc D A1 Q a) A1) (hS : va_S A0 H0 H locs) (hA : ∀ q, A1 q → A0 q)
    (kk : ∀ (r : Option MV) (h : Hp) (H1 : Heap) (locs1 : List Loc), Q r h → va_P D vwCl (WS al tc h) H1 → va_D A0 (WS al tc h) → va_S A0 H0 H1 locs1 → W p l e R s m args below meth c H1 locs1 (cells + mc) (slots + ms) Z (F0 m (pc + 3) ls ((r.map (conc al)).toList ++ rest))) : W p l e R s m args below meth c H locs cells slots Z (F0 m pc ls st0) := by
  intro T hT X
  obtain ⟨v, st₀, t, T', L, h0, X', hL, e1, e2, ⟨⟨r, h, hv, hq, hP, hK, hD⟩, hz, hk⟩, st⟩ := hr T hT X
  cases hv
  rw [h0] at hz hk
  obtain ⟨t2, a1, b1⟩ := kk r h T'.heap (locs ++ L) hq (by rw [e1]; exact hP) (hD.weaken (fun _ _ _ q => hA _ q))
    ⟨Nat.le_trans hS.1 (by rw [e1]; exact hz), fun q h1 h2 => by rw [e1, hk q (Nat.lt_of_lt_of_le h1 hS.1) (fun z => h2 (hA q z))]; exact hS.2.1 q h1 h2, fun q hq => by
      rcases List.mem_append.mp hq with h | h
      · exact hS.2.2 q h
      · exact hA _ (hL q h)⟩ T' rfl X'
  exact ⟨t2, st t2 a1, b1⟩
theorem v_callL {p : Program} {l : Launch} {e : Env} {R : Room} {s : State} {m : MethodId} {args : Array Value} {below : List Frame} {meth : Method} {c : Code} {al : Nat → Nat} {tc : Nat → ClassId} {D : va_G} {A : Nat → Prop} {Z : State → Prop} {rc rs : Nat} {hh : List (Nat × Nat × Nat × Nat)}
    (hX : Cx (d + 1) M (p, l, e, R, s, m, args, below, meth, c, al, tc, D, A, Z, rc + 1, rs + 6)) (hl0 : l.stackTraces = false) (hth : TH A s s.heap) {idx : Nat} (hd : Dc M pc (.invokestatic idx) 3 nx) (hl1 : Cond.methodLink M.1.cls idx M'.1 ∈ TB) (hl2 : Cond.static M'.1 ∈ TB) (hl3 : Cond.initialized M'.1.cls ∈ TB) (hcw : Cond.codeWith M'.1 M'.2.1 M'.2.2.1 M'.2.2.2.1 hh ∈ TB) (h40 : M'.2.2.1 ≤ 40)
    (hd9 : M'.1.cls ≠ "java/lang/invoke/MethodHandle" ∧ M'.1.cls ≠ "java/lang/invoke/VarHandle" ∧ (parseMethodDescriptor M'.1.desc).map (fun d => d.parameters.length) = some M'.2.2.2.2) (hn : as.length = M'.2.2.2.2) (hst : (st.map mcat).sum ≤ 8)
    (hc : CtL d M' hh as h Q) {stk : List MV} (hs : stk = as.reverse ++ st) (kk : ∀ r g, Q r g → VW (p, l, e, R, s, m, args, below, meth, c, al, tc, D, A, Z, rc, rs) nx ls (r.toList ++ st) g) : VW (p, l, e, R, s, m, args, below, meth, c, al, tc, D, A, Z, rc + 1, rs + 6) pc ls stk h := by
  subst hs
  obtain ⟨hx, hb, hml, hr, hown, hts, hlk, hK, hA, hfr, hlo, hne⟩ := hX
  obtain ⟨hdg, rfl⟩ := hd
  intro H locs la cells slots hP hD hS hlh h1 h2
  have hF := wfree hD hS hA
  refine va_callQm (A1 := va_A (WS al tc h) H.size) (vx_runSW (As := as.map (conc al)) (rest := st.map (conc al)) (ws := wsX M' hh) (rm := rmX d) (n := M'.2.2.2.2) (hh := hh) ⟨hx, hb, hml, hown, hts⟩ (hc l al tc D H.size hl0)
    (vx_cwSW M'.2.2.2.2 hts (fun w hw => by
      have hm : w ∈ TB := by
        simp only [va_wsS, List.cons_append, List.nil_append, List.mem_cons, List.mem_append, wsX] at hw
        rcases hw with rfl | rfl | rfl | rfl | hw
        · exact hl1
        · exact hl2
        · exact hl3
        · exact hcw
        · exact hw
      exact ⟨hm, good_of_word (tb_good w hm)⟩) rfl rfl rfl hd9 ⟨hfr, by show 8 + (M'.2.2.1 + 11) + (64 * d + 20) ≤ R.locals; omega⟩)
    ⟨PBX_blind, fun U hU hW => ⟨rfl, ⟨by rw [hU], by rw [hU]; exact hP, va_K.moved hW.alike hK, hD.weaken (fun _ _ _ _ => trivial), va_Nw.warmM hW hne⟩, hth.to hS hF hW hU⟩⟩ rfl (by simp [hn]) (hlh.1.trans hml) (by simp [F0, List.map_append, List.map_reverse]) (lv_room (st_room hst)) hdg ⟨by omega, by omega⟩) hS hF
    (fun r g H1 locs1 hq hP1 hD1 hS1 => ?_)
  have := kk r g hq H1 locs1 la (cells + 1) (slots + 6) hP1 hD1 hS1 hlh (by omega) (by omega)
  rw [List.map_append] at this
  cases r <;> exact this
end VTHROW
