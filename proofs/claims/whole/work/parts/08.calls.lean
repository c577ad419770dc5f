section VCALLS
/-! a method's words: its own code, and all of TB -/
def wsM (M : MT) : List Cond := Cond.code M.1 M.2.1 M.2.2.1 M.2.2.2.1 :: TB
def rmd (d : Nat) : Room := { frames := d, cells := 0, slots := 0, locals := 64 * d + 20 }
def PB (al : Nat → Nat) (tc : Nat → ClassId) (D : va_G) (h : Hp) (sz : Nat) : State → Prop := fun U => U.heap.size = sz ∧ va_P D vwCl (WS al tc h) U.heap ∧ va_K D vwCl (TY tc) U ∧ va_D (fun _ => True) (WS al tc h) ∧ NEST U
theorem wsM_in {M : MT} (hM : MOK M) : ∀ w ∈ wsM M, w ∈ TB := fun w hw => (List.mem_cons.mp hw).elim (fun e => e ▸ hM.2.1) id
theorem wsM_good {M : MT} (hM : MOK M) : GoodIn TB (wsM M) := fun w hw => ⟨wsM_in hM w hw, good_of_word (tb_good w (wsM_in hM w hw))⟩
theorem good_app {ws : List Cond} {M : MT} (hM : MOK M) (h : ∀ w ∈ ws, w ∈ TB) : GoodIn TB (ws ++ wsM M) := fun w hw => (List.mem_append.mp hw).elim (fun q => ⟨h w q, good_of_word (tb_good w (h w q))⟩) (wsM_good hM w)
theorem conc_map_cons {al : Nat → Nat} {v : MV} {st : List MV} : (v :: st).map (conc al) = conc al v :: st.map (conc al) := rfl
/-- the locals at the entry -/
theorem entL_ok (al : Nat → Nat) : ∀ (as : List MV) (n i : Nat) (o : Nat) (v : MV), (entL as n)[i]? = some (some v) → (i + o, conc al v) ∈ lv_args o (as.map (conc al))
  | [], n, i, o, v, h => by
    simp only [entL, List.getElem?_replicate] at h
    split at h <;> simp at h
  | .inl (.inr z) :: as, n + 2, i, o, v, h => by
    simp only [entL] at h
    rw [conc_map_cons, lv_args]
    match i with
    | 0 =>
      simp at h
      subst h
      rw [Nat.zero_add]
      exact List.mem_cons_self
    | 1 => simp at h
    | i + 2 =>
      simp only [List.getElem?_cons_succ] at h
      have := entL_ok al as n i (o + 2) v h
      rw [if_pos (by rfl), show i + 2 + o = i + (o + 2) by omega]
      exact List.mem_cons_of_mem _ this
  | .inl (.inl z) :: as, n + 1, i, o, v, h => by
    simp only [entL] at h
    rw [conc_map_cons, lv_args]
    match i with
    | 0 =>
      simp at h
      subst h
      rw [Nat.zero_add]
      exact List.mem_cons_self
    | i + 1 =>
      simp only [List.getElem?_cons_succ] at h
      have := entL_ok al as n i (o + 1) v h
      rw [if_neg (fun q => by cases q), show i + 1 + o = i + (o + 1) by omega]
      exact List.mem_cons_of_mem _ this
  | .inr r :: as, n + 1, i, o, v, h => by
    simp only [entL] at h
    rw [conc_map_cons, lv_args]
    have hc : ¬ (conc al (.inr r)).category = 2 := by cases r <;> exact (fun q => by cases q)
    match i with
    | 0 =>
      simp at h
      subst h
      rw [Nat.zero_add]
      exact List.mem_cons_self
    | i + 1 =>
      simp only [List.getElem?_cons_succ] at h
      have := entL_ok al as n i (o + 1) v h
      rw [if_neg hc, show i + 1 + o = i + (o + 1) by omega]
      exact List.mem_cons_of_mem _ this
  | .inl (.inr z) :: as, 0, i, o, v, h => by simp [entL] at h
  | .inl (.inr z) :: as, 1, i, o, v, h => by simp [entL] at h
  | .inl (.inl z) :: as, 0, i, o, v, h => by simp [entL] at h
  | .inr r :: as, 0, i, o, v, h => by simp [entL] at h
theorem sl_len (al : Nat → Nat) : ∀ (as : List MV), (lg_sl (as.map (conc al))).length = (as.map mcat).sum
  | [] => rfl
  | v :: as => by
    have ih := sl_len al as
    simp only [lg_sl, List.map_cons, List.flatMap_cons, List.length_append, List.sum_cons] at ih ⊢
    rw [ih, conc_cat]
    rcases v with (z | z) | r <;> rfl
theorem metOf {d : Nat} {M : MT} {as : List MV} {h : Hp} {Q : Option MV → Hp → Prop} (hc : Ct d M as h Q) (hM : MOK M) (hn : (as.map mcat).sum ≤ M.2.2.1) (l : Launch) (al : Nat → Nat) (tc : Nat → ClassId) (D : va_G) (sz : Nat) :
    Met l M.1 (wsM M) (rmd d) (va_Pc (as.map (conc al)) (PB al tc D h sz)) (QV al tc D (va_A (WS al tc h) sz) Q) 0 0 (va_A (WS al tc h) sz) := by
  refine Met.ofW (cc := M.2.1) (maxL := M.2.2.1) (ret := M.2.2.2.1) hM.1 rfl ?_
  intro p e s m args below meth c s₁ B hml hv
  obtain ⟨rfl, hsz, hP, hK, hD0, hne⟩ := hv
  have hts0 := atoms_spec (ws := wsM M) B.pre
  subst hsz
  have hD := hD0.self (sz := s.heap.size)
  rw [lg_entry_eq]
  have hl := lv_entry (as.map (conc al)) (n := M.2.2.1) (by rw [sl_len]; exact hn)
  have hcx : Cx d M (p, l, e, rmd d, s, m, (as.map (conc al)).toArray, below, meth, c, al, tc, D, va_A (WS al tc h) s.heap.size, MQ below (QV al tc D (va_A (WS al tc h) s.heap.size) Q) (as.map (conc al)).toArray s 0 0 (va_A (WS al tc h) s.heap.size), 0, 0) :=
    ⟨B.exec, B.bytes, hml, B.returns, findClass_of_methodNamed B.named, fun w hw => hts0 w (List.mem_cons_of_mem _ hw), B.notSynchronized, hK, fun q hq => Or.inr hq, Nat.le_refl _, Nat.le_refl _, hne⟩
  have hrt : Rt Q (p, l, e, rmd d, s, m, (as.map (conc al)).toArray, below, meth, c, al, tc, D, va_A (WS al tc h) s.heap.size, MQ below (QV al tc D (va_A (WS al tc h) s.heap.size) Q) (as.map (conc al)).toArray s 0 0 (va_A (WS al tc h) s.heap.size), 0, 0) := rfl
  exact hc _ hcx hrt s.heap [] _ 0 0 hP hD va_S.rf ⟨by rw [hml]; exact hl.1, hl.2.1, fun i v hi => by
    have := hl.2.2 _ (entL_ok al as M.2.2.1 i 0 v hi)
    simpa using this⟩ (Nat.le_refl _) (Nat.le_refl _)
theorem PB_blind {as : List Value} {al : Nat → Nat} {tc : Nat → ClassId} {D : va_G} {h : Hp} {sz : Nat} : FrameBlind (va_Pc as (PB al tc D h sz)) :=
  fun a U g mk q => by
    obtain ⟨q0, q1, qP, qK, qD, qN⟩ := q
    exact ⟨q0, q1, qP, va_K.moved (u := U) (U := U.calling g mk a) (Vm.Alike.refl U.vm) qK, qD, va_Nw.same (by rfl) rfl qN⟩
theorem va_callQ {p : Program} {l : Launch} {e : Env} {R : Room} {s : State} {m : MethodId} {args : Array Value} {below : List Frame} {meth : Method} {c : Code} {H : Heap} {locs : List Loc} {cells slots : Nat} {Z : State → Prop} {pc : Nat} {ls : Array Slot} {rest st0 : List Value} {a : Array Value} {A0 A1 : Nat → Prop} {H0 : Heap}
    {al : Nat → Nat} {tc : Nat → ClassId} {D : va_G} {Q : Option MV → Hp → Prop}
    (hr : va_Run p l e R s m args below meth c H locs cells slots 0 0 (F0 m pc ls st0) rest (QV al tc D A1 Q a) A1) (hS : va_S A0 H0 H locs) (hA : ∀ q, A1 q → A0 q)
    (kk : ∀ (r : Option MV) (h : Hp) (H1 : Heap) (locs1 : List Loc), Q r h → va_P D vwCl (WS al tc h) H1 → va_D A0 (WS al tc h) → va_S A0 H0 H1 locs1 → W p l e R s m args below meth c H1 locs1 cells slots Z (F0 m (pc + 3) ls ((r.map (conc al)).toList ++ rest))) : W p l e R s m args below meth c H locs cells slots Z (F0 m pc ls st0) := by
  intro T hT X
  obtain ⟨v, st₀, t, T', L, h0, X', hL, e1, e2, ⟨⟨r, h, hv, hq, hP, hK, hD⟩, hz, hk⟩, st⟩ := hr T hT X
  cases hv
  rw [h0] at hz hk
  obtain ⟨t2, a1, b1⟩ := kk r h T'.heap (locs ++ L) hq (by rw [e1]; exact hP) (hD.weaken (fun _ _ _ q => hA _ q))
    ⟨Nat.le_trans hS.1 (by rw [e1]; exact hz), fun q h1 h2 => by rw [e1, hk q (Nat.lt_of_lt_of_le h1 hS.1) (fun z => h2 (hA q z))]; exact hS.2.1 q h1 h2, fun q hq => by
      rcases List.mem_append.mp hq with h | h
      · exact hS.2.2 q h
      · exact hA _ (hL q h)⟩ T' rfl X'
  exact ⟨t2, st t2 a1, b1⟩
variable {d : Nat} {M M' : MT} {X : CT} {pc nx : Nat} {ls : List (Option MV)} {st as : List MV} {h : Hp} {Q : Option MV → Hp → Prop}
theorem st_room {al : Nat → Nat} {st : List MV} (h : (st.map mcat).sum ≤ 8) : ((st.map (conc al)).map fun v => v.category).sum ≤ 8 := by
  rw [List.map_map, show (Value.category ∘ conc al) = mcat from funext (conc_cat al)]
  exact h
theorem wfree {al : Nat → Nat} {tc : Nat → ClassId} {h : Hp} {A : Nat → Prop} {H0 H : Heap} {locs : List Loc} (hD : va_D A (WS al tc h)) (hS : va_S A H0 H locs) (hA : ∀ q, H0.size ≤ q → A q) : ∀ q, va_A (WS al tc h) H.size q → A q := by
  intro q hq
  rcases hq with ⟨k, e, hk⟩ | hq
  · exact hD.2 k _ hk
  · exact hA q (Nat.le_trans hS.1 hq)
theorem v_callV (hX : Cx (d + 1) M X) {idx q ci : Nat} (hd : Dc M pc (.invokevirtual idx) 3 nx) (hl : LVk M.1.cls idx M') (hM : MOK M') (ho : OB q ci) (hC : (vwCl[ci]?).map (fun x => x.1) = some M'.1.cls) (hn : as.length = M'.2.2.2.2 ∧ ((mA q :: as).map mcat).sum ≤ M'.2.2.1) (hst : (st.map mcat).sum ≤ 8)
    (hc : Ct d M' (mA q :: as) h Q) {stk : List MV} (hs : stk = as.reverse ++ mA q :: st) (kk : ∀ r g, Q r g → VW X nx ls (r.toList ++ st) g) : VW X pc ls stk h := by
  subst hs
  obtain ⟨p, l, e, R, s, m, args, below, meth, c, al, tc, D, A, Z, rc, rs⟩ := X
  obtain ⟨hx, hb, hml, hr, hown, hts, hlk, hK, hA, hfr, hlo, hne⟩ := hX
  obtain ⟨hdg, rfl⟩ := hd
  intro H locs la cells slots hP hD hS hlh h1 h2
  obtain ⟨hl1, hl2, hl3, hl4⟩ := hl
  obtain ⟨hM1, hM2, hM3, hM4, hM5, hM6⟩ := id hM
  obtain ⟨C, hC1, hC2⟩ := Option.map_eq_some_iff.mp hC
  have hF := wfree hD hS hA
  refine va_callQ (A1 := va_A (WS al tc h) H.size) (va_runV (As := as.map (conc al)) (rest := st.map (conc al)) (b := al q) (C := M'.1.cls) (ws := wsM M') (rm := rmd d) (n := M'.2.2.2.2) ⟨hx, hb, hml, hown, hts⟩ (metOf hc hM hn.2 l al tc D H.size)
    (cwV M'.2.2.2.2 hts (good_app hM (fun w hw => by
      simp only [List.mem_cons, List.not_mem_nil, or_false] at hw
      rcases hw with rfl | rfl | rfl | rfl
      · exact hl1
      · exact hl2
      · exact hl3
      · exact hl4)) rfl rfl rfl ⟨rfl, hM4, hM5, hM6⟩ ⟨hfr, by show 8 + (M'.2.2.1 + 11) + (64 * d + 20) ≤ R.locals; omega⟩)
    ⟨PB_blind, by rw [← hC2]; exact va_recv hK hP hC1 ho.cell, fun U hU hW => ⟨rfl, by rw [hU], by rw [hU]; exact hP, va_K.moved hW.alike hK, hD.weaken (fun _ _ _ _ => trivial), va_Nw.warmM hW hne⟩⟩ rfl (by simp [hn.1]) (hlh.1.trans hml) (by simp [F0, List.map_append, List.map_reverse, conc]) (lv_room (st_room hst)) hdg ⟨by omega, by omega⟩) hS hF
    (fun r g H1 locs1 hq hP1 hD1 hS1 => ?_)
  have := kk r g hq H1 locs1 la cells slots hP1 hD1 hS1 hlh h1 h2
  rw [List.map_append] at this
  cases r <;> exact this
theorem v_callS (hX : Cx (d + 1) M X) {idx : Nat} (hd : Dc M pc (.invokestatic idx) 3 nx) (hl : LSk M.1.cls idx M') (hM : MOK M') (hn : as.length = M'.2.2.2.2 ∧ (as.map mcat).sum ≤ M'.2.2.1) (hst : (st.map mcat).sum ≤ 8)
    (hc : Ct d M' as h Q) {stk : List MV} (hs : stk = as.reverse ++ st) (kk : ∀ r g, Q r g → VW X nx ls (r.toList ++ st) g) : VW X pc ls stk h := by
  subst hs
  obtain ⟨p, l, e, R, s, m, args, below, meth, c, al, tc, D, A, Z, rc, rs⟩ := X
  obtain ⟨hx, hb, hml, hr, hown, hts, hlk, hK, hA, hfr, hlo, hne⟩ := hX
  obtain ⟨hdg, rfl⟩ := hd
  intro H locs la cells slots hP hD hS hlh h1 h2
  obtain ⟨hl1, hl2, hl3⟩ := hl
  obtain ⟨hM1, hM2, hM3, hM4, hM5, hM6⟩ := id hM
  have hF := wfree hD hS hA
  refine va_callQ (A1 := va_A (WS al tc h) H.size) (va_runS (As := as.map (conc al)) (rest := st.map (conc al)) (ws := wsM M') (rm := rmd d) (n := M'.2.2.2.2) ⟨hx, hb, hml, hown, hts⟩ (metOf hc hM hn.2 l al tc D H.size)
    (va_cwS M'.2.2.2.2 hts (good_app hM (fun w hw => by
      simp only [List.mem_cons, List.not_mem_nil, or_false] at hw
      rcases hw with rfl | rfl | rfl
      · exact hl1
      · exact hl2
      · exact hl3)) rfl rfl rfl ⟨hM4, hM5, hM6⟩ ⟨hfr, by show 8 + (M'.2.2.1 + 11) + (64 * d + 20) ≤ R.locals; omega⟩)
    ⟨PB_blind, fun U hU hW => ⟨rfl, by rw [hU], by rw [hU]; exact hP, va_K.moved hW.alike hK, hD.weaken (fun _ _ _ _ => trivial), va_Nw.warmM hW hne⟩⟩ rfl (by simp [hn.1]) (hlh.1.trans hml) (by simp [F0, List.map_append, List.map_reverse]) (lv_room (st_room hst)) hdg ⟨by omega, by omega⟩) hS hF
    (fun r g H1 locs1 hq hP1 hD1 hS1 => ?_)
  have := kk r g hq H1 locs1 la cells slots hP1 hD1 hS1 hlh h1 h2
  rw [List.map_append] at this
  cases r <;> exact this
/-- the nest mate's static method exchangePlaces, called by Roll -/
theorem v_callN (hX : Cx (d + 1) M X) (hown4 : M.1.cls = RX4) (hd : Dc M pc (.invokestatic 77) 3 nx) (hst9 : Cond.static yX7_exchangePlaces ∈ TB) (hin9 : Cond.initialized RX7 ∈ TB) (hM : MOK MX7_exchangePlaces) (hn : as.length = 3 ∧ (as.map mcat).sum ≤ 4) (hst : (st.map mcat).sum ≤ 8)
    (hc : Ct d MX7_exchangePlaces as h Q) {stk : List MV} (hs : stk = as.reverse ++ st) (kk : ∀ r g, Q r g → VW X nx ls (r.toList ++ st) g) : VW X pc ls stk h := by
  subst hs
  obtain ⟨p, l, e, R, s, m, args, below, meth, c, al, tc, D, A, Z, rc, rs⟩ := X
  obtain ⟨hx, hb, hml, hr, hown, hts, hlk, hK, hA, hfr, hlo, hne⟩ := hX
  obtain ⟨hdg, rfl⟩ := hd
  intro H locs la cells slots hP hD hS hlh h1 h2
  obtain ⟨hM1, hM2, hM3, hM4, hM5, hM6⟩ := id hM
  rw [hown4] at hown
  have hF := wfree hD hS hA
  refine va_callQ (A1 := va_A (WS al tc h) H.size) (va_runSN (As := as.map (conc al)) (rest := st.map (conc al)) (ws := wsM MX7_exchangePlaces) (rm := rmd d) (n := 3) (host := RX7) ⟨hx, hb, hml, hown, hts⟩ (metOf hc hM hn.2 l al tc D H.size)
    ⟨va_cnB 3 hts (wsM_good hM) rfl rfl rfl hne (hts _ hin9) ⟨hM4, hM5, hM6⟩ ⟨hfr, by show 8 + (4 + 11) + (64 * d + 20) ≤ R.locals; omega⟩, hts _ hst9, trivial⟩
    ⟨PB_blind, fun U hU hW => ⟨rfl, by rw [hU], by rw [hU]; exact hP, va_K.moved hW.alike hK, hD.weaken (fun _ _ _ _ => trivial), va_Nw.warmM hW hne⟩⟩ rfl (by simp [hn.1]) (hlh.1.trans hml) (by simp [F0, List.map_append, List.map_reverse]) (lv_room (st_room hst)) hdg ⟨by omega, by omega⟩) hS hF
    (fun r g H1 locs1 hq hP1 hD1 hS1 => ?_)
  have := kk r g hq H1 locs1 la cells slots hP1 hD1 hS1 hlh h1 h2
  rw [List.map_append] at this
  cases r <;> exact this
end VCALLS
