-- THE V LAYER: a state of the system as numbers; a judgement over it; a rule an instruction
abbrev MV : Type := (Int ⊕ Int) ⊕ Option Nat
abbrev mI (z : Int) : MV := .inl (.inl z)
abbrev mL (z : Int) : MV := .inl (.inr z)
abbrev mA (k : Nat) : MV := .inr (some k)
abbrev mN : MV := .inr none
abbrev Hp : Type := Nat → Nat → Int
def up (h : Hp) (k j : Nat) (v : Int) : Hp := fun a b => if a = k ∧ b = j then v else h a b
def conc (al : Nat → Nat) : MV → Value
  | .inl (.inl z) => .int (Int32.ofInt z)
  | .inl (.inr z) => .long (Int64.ofInt z)
  | .inr (some k) => .ref (al k)
  | .inr none => .null
def mcat : MV → Nat
  | .inl (.inr _) => 2
  | _ => 1
theorem conc_cat (al : Nat → Nat) (v : MV) : (conc al v).category = mcat v := by
  rcases v with (z | z) | (_ | k) <;> rfl
/-! the heap's shape: objects by their class, arrays by their kind (0 int, 1 boolean, 2 long, 3 Pupil, 4 Project) and length -/
def SHL : List (Nat ⊕ (Nat × Nat)) := [.inl 7, .inl 4, .inl 6, .inl 1, .inr (0, 8), .inr (0, 5), .inr (0, 5), .inr (0, 5), .inr (3, 8), .inr (4, 5), .inr (0, 8), .inl 0, .inl 5, .inr (0, 8), .inr (0, 5), .inr (0, 8), .inr (0, 8), .inr (0, 256), .inr (0, 256), .inr (2, 48), .inr (2, 48), .inr (0, 480), .inr (0, 480),
  .inl 3, .inl 3, .inl 3, .inl 3, .inl 3, .inl 3, .inl 3, .inl 3, .inr (0, 5), .inr (0, 5), .inr (0, 5), .inr (0, 5), .inr (0, 5), .inr (0, 5), .inr (0, 5), .inr (0, 5), .inl 2, .inl 2, .inl 2, .inl 2, .inl 2,
  .inl 8, .inr (0, 8), .inr (1, 8), .inr (0, 8), .inr (0, 40), .inr (0, 8), .inr (0, 8), .inr (1, 64), .inr (1, 64), .inr (0, 8), .inr (0, 5), .inr (0, 5), .inr (0, 5), .inr (0, 5), .inr (0, 5), .inr (1, 5), .inr (0, 8), .inr (0, 8), .inr (0, 5), .inr (0, 5), .inr (0, 480), .inr (0, 480), .inr (0, 60), .inr (0, 5), .inr (2, 1)]
def KN : Nat := 69
def SH (k : Nat) : Nat ⊕ (Nat × Nat) := SHL.getD k (.inl 0)
/-! the references: they never change -/
def RFL : List (List (Option Nat)) := [[some 1, some 2, some 3, some 4, some 5, some 6, some 7], [some 8, some 9, some 10], [some 11, some 12, some 13, some 14, some 15, some 16], [some 21, some 22], [], [], [], [], [some 23, some 24, some 25, some 26, some 27, some 28, some 29, some 30], [some 39, some 40, some 41, some 42, some 43], [], [some 17, some 18], [some 19, some 20], [], [], [], [], [], [], [], [], [], [],
  [some 31], [some 32], [some 33], [some 34], [some 35], [some 36], [some 37], [some 38], [], [], [], [], [], [], [], [], [], [], [], [], [],
  [none, none, some 45, some 46, some 47, some 48, some 49, some 50, some 51, some 52, some 53, none, some 54, some 55, some 56, some 57, some 58, some 59, none, none, none, some 60, some 61, none, none, none, none, none, none, some 62, some 63, none, some 64, some 65, some 66, some 67, none]]
def RF (k j : Nat) : Option Nat := (RFL.getD k []).getD j none
def fval (al : Nat → Nat) (h : Hp) (k ci j : Nat) : Value := match FK ci j with
  | 1 => .long (Int64.ofInt (h k j))
  | 2 => va_rf ((RF k j).map al)
  | _ => .int (Int32.ofInt (h k j))
def cellE (al : Nat → Nat) (tc : Nat → ClassId) (h : Hp) (k : Nat) : va_E := match SH k with
  | .inl ci => .inr (ci, (List.range (NF ci)).map (fval al h k ci))
  | .inr (t, n) => .inl (tc t, n, match t with
    | 0 => .inl (fun j => Int32.ofInt (h k j))
    | 1 => .inl (fun j => Int32.ofInt (h k j))
    | 2 => .inr (.inl (fun j => Int64.ofInt (h k j)))
    | _ => .inr (.inr (.inr (.inr (fun j => (RF k j).map al)))))
def TY (tc : Nat → ClassId) : List (ClassId × FieldType) := [(tc 0, .int), (tc 1, .boolean), (tc 2, .long), (tc 3, .object "WishSharer$Pupil"), (tc 4, .object "WishSharer$Project")]
def WS (al : Nat → Nat) (tc : Nat → ClassId) (h : Hp) : va_W := (List.range KN).map (fun k => (al k, cellE al tc h k))
theorem WS_get {al : Nat → Nat} {tc : Nat → ClassId} {h : Hp} {k : Nat} (hk : k < KN) : (WS al tc h)[k]? = some (al k, cellE al tc h k) := by
  simp [WS, hk]
theorem cellE_ne {al : Nat → Nat} {tc : Nat → ClassId} {h h' : Hp} {k : Nat} (e : ∀ j, h' k j = h k j) : cellE al tc h' k = cellE al tc h k := by
  have hf : h' k = h k := funext e
  have hv : ∀ ci, fval al h' k ci = fval al h k ci := fun ci => by funext j; simp only [fval, hf]
  simp only [cellE, hf, hv]
theorem WS_set {al : Nat → Nat} {tc : Nat → ClassId} {h : Hp} {k j : Nat} {v : Int} (x : va_E) (hx : x = cellE al tc (up h k j v) k) : (WS al tc h).set k (al k, x) = WS al tc (up h k j v) := by
  subst hx
  apply List.ext_getElem?
  intro i
  by_cases hi : i = k
  · subst hi
    by_cases hn : i < KN
    · rw [WS_get hn, List.getElem?_set_self (by simp [WS, hn])]
    · simp [WS, hn, List.getElem?_set]
  · rw [List.getElem?_set_ne (Ne.symm hi)]
    by_cases hn : i < KN
    · rw [WS_get hn, WS_get hn, cellE_ne (h' := up h k j v) (h := h) (fun b => by simp [up, hi])]
    · simp [WS, hn]
/-! locals -/
def LL (al : Nat → Nat) (ls : List (Option MV)) : List (Nat × Value) := (List.range ls.length).filterMap (fun i => (ls.getD i none).map (fun v => (i, conc al v)))
theorem LL_mem {al : Nat → Nat} {ls : List (Option MV)} {i : Nat} {w : Value} : (i, w) ∈ LL al ls ↔ ∃ v, ls[i]? = some (some v) ∧ w = conc al v := by
  simp only [LL, List.mem_filterMap, List.mem_range, Option.map_eq_some_iff, List.getD_eq_getElem?_getD]
  constructor
  · rintro ⟨a, h1, v, h2, h3⟩
    cases h3
    rw [List.getElem?_eq_getElem h1] at h2 ⊢
    exact ⟨v, by simpa using h2, rfl⟩
  · rintro ⟨v, h1, rfl⟩
    exact ⟨i, (List.getElem?_eq_some_iff.mp h1).1, v, by rw [h1]; rfl, rfl⟩
def LH (al : Nat → Nat) (ls : List (Option MV)) (la : Array Slot) (n : Nat) : Prop := la.size = n ∧ lv_wf la ∧ ∀ (i : Nat) (v : MV), ls[i]? = some (some v) → la[i]? = some (.val (conc al v))
theorem LH.has {al : Nat → Nat} {ls : List (Option MV)} {la : Array Slot} {n : Nat} (h : LH al ls la n) : lv_has la n (LL al ls) :=
  ⟨h.1, h.2.1, fun q hq => by
    obtain ⟨i, w⟩ := q
    obtain ⟨v, h1, rfl⟩ := LL_mem.mp hq
    exact h.2.2 i v h1⟩
def nlg (ls : List (Option MV)) : Nat → Bool
  | 0 => true
  | j + 1 => match ls[j]? with
    | some (some (.inl (.inr _))) => false
    | _ => true
theorem nlg_cat {al : Nat → Nat} {ls : List (Option MV)} {i j : Nat} {v : MV} (h : nlg ls i = true) (e : j + 1 = i) (hv : ls[j]? = some (some v)) : ¬ (conc al v).category = 2 := by
  subst e
  simp only [nlg, hv] at h
  rcases v with (z | z) | (_ | k)
  · exact fun q => by cases q
  · exact absurd h (by simp)
  · exact fun q => by cases q
  · exact fun q => by cases q
theorem LH.store {al : Nat → Nat} {ls : List (Option MV)} {la : Array Slot} {n i : Nat} {v : MV} (hn : nlg ls i = true)
    (h : lv_has la n ((i, conc al v) :: (LL al ls).filter (fun q => !(q.1 == i) && !(q.1 + 1 == i && q.2.category == 2)))) : LH al (ls.set i (some v)) la n := by
  refine ⟨h.1, h.2.1, fun j w hj => ?_⟩
  by_cases e : j = i
  · subst e
    have hl : j < ls.length := by
      have := (List.getElem?_eq_some_iff.mp hj).1
      simpa using this
    rw [List.getElem?_set_self hl] at hj
    cases hj
    exact h.2.2 (j, conc al v) List.mem_cons_self
  · rw [List.getElem?_set_ne (Ne.symm e)] at hj
    refine h.2.2 (j, conc al w) (List.mem_cons_of_mem _ (List.mem_filter.mpr ⟨LL_mem.mpr ⟨w, hj, rfl⟩, ?_⟩))
    by_cases e2 : j + 1 = i
    · have := nlg_cat (al := al) hn e2 hj
      simp [e, this]
    · simp [e, e2]
theorem LH.store2 {al : Nat → Nat} {ls : List (Option MV)} {la : Array Slot} {n i : Nat} {v : MV} (hn : nlg ls i = true)
    (h : lv_has la n ((i, conc al v) :: (LL al ls).filter (fun q => !(q.1 == i) && (!(q.1 == i + 1) && !(q.1 + 1 == i && q.2.category == 2))))) : LH al ((ls.set i (some v)).set (i + 1) none) la n := by
  refine ⟨h.1, h.2.1, fun j w hj => ?_⟩
  by_cases e1 : j = i + 1
  · subst e1
    rw [List.getElem?_set] at hj
    split at hj
    · split at hj <;> simp at hj
    · simp at *
  rw [List.getElem?_set_ne (Ne.symm e1)] at hj
  by_cases e : j = i
  · subst e
    have hl : j < ls.length := by
      have := (List.getElem?_eq_some_iff.mp hj).1
      simpa using this
    rw [List.getElem?_set_self hl] at hj
    cases hj
    exact h.2.2 (j, conc al v) List.mem_cons_self
  · rw [List.getElem?_set_ne (Ne.symm e)] at hj
    refine h.2.2 (j, conc al w) (List.mem_cons_of_mem _ (List.mem_filter.mpr ⟨LL_mem.mpr ⟨w, hj, rfl⟩, ?_⟩))
    by_cases e2 : j + 1 = i
    · have := nlg_cat (al := al) hn e2 hj
      simp [e, e1, this]
    · simp [e, e1, e2]
/-! the judgement -/
abbrev CT : Type := Program × Launch × Env × Room × State × MethodId × Array Value × List Frame × Method × Code × (Nat → Nat) × (Nat → ClassId) × va_G × (Nat → Prop) × (State → Prop) × Nat × Nat
def NEST (U : State) : Prop := va_Nw (.methodLinkNest RX4 77 yX7_exchangePlaces RX7) U
def VW (X : CT) (pc : Nat) (ls : List (Option MV)) (st : List MV) (h : Hp) : Prop := match X with
  | (p, l, e, R, s, m, args, below, meth, c, al, tc, D, A, Z, rc, rs) =>
    ∀ (H : Heap) (locs : List Loc) (la : Array Slot) (cells slots : Nat), va_P D vwCl (WS al tc h) H → va_D A (WS al tc h) → va_S A s.heap H locs → LH al ls la c.maxLocals → cells + rc ≤ R.cells → slots + rs ≤ R.slots →
      W p l e R s m args below meth c H locs cells slots Z (F0 m pc la (st.map (conc al)))
def Cx (d : Nat) (M : MT) (X : CT) : Prop := match X with
  | (p, _, _, R, s, m, args, _, meth, c, _, tc, D, A, _, _, _) =>
    p.tables.exec = Jvm.exec ∧ c.code = M.2.1 ∧ c.maxLocals = M.2.2.1 ∧ meth.sig.returnType = M.2.2.2.1 ∧ s.vm.findClass M.1.cls = some m.cls ∧ (∀ w ∈ TB, w.before args s = true) ∧ meth.locks = false ∧ va_K D vwCl (TY tc) s ∧ (∀ q, s.heap.size ≤ q → A q) ∧ d ≤ R.frames ∧ 64 * d + 20 ≤ R.locals ∧ NEST s
def QV (al : Nat → Nat) (tc : Nat → ClassId) (D : va_G) (A : Nat → Prop) (Q : Option MV → Hp → Prop) : Array Value → State → Outcome → State → Prop := fun _ st oc t =>
  (∃ (r : Option MV) (h : Hp), oc = .returned (r.map (conc al)) ∧ Q r h ∧ va_P D vwCl (WS al tc h) t.heap ∧ va_K D vwCl (TY tc) t ∧ va_D A (WS al tc h)) ∧ va_F A st t
def Rt (Q : Option MV → Hp → Prop) (X : CT) : Prop := match X with
  | (_, _, _, R, s, _, args, below, _, _, al, tc, D, A, Z, _, _) => Z = MQ below (QV al tc D A Q) args s R.cells R.slots A
def entL : List MV → Nat → List (Option MV)
  | [], n => List.replicate n none
  | .inl (.inr z) :: as, n + 2 => some (mL z) :: none :: entL as n
  | .inl (.inl z) :: as, n + 1 => some (mI z) :: entL as n
  | .inr r :: as, n + 1 => some (.inr r) :: entL as n
  | _, _ => []
/-- a method from its entry: it returns, with Q of its answer and of the numbers behind it -/
def Ct (d : Nat) (M : MT) (as : List MV) (h : Hp) (Q : Option MV → Hp → Prop) : Prop := ∀ X, Cx d M X → Rt Q X → VW X 0 (entL as M.2.2.1) [] h
theorem Ct.mono {d : Nat} {M : MT} {as : List MV} {h : Hp} {Q Q' : Option MV → Hp → Prop} (hc : Ct d M as h Q) (hq : ∀ r g, Q r g → Q' r g) : ∀ X, Cx d M X → Rt Q X → VW X 0 (entL as M.2.2.1) [] h := fun X a b => hc X a b
/-! numbers -/
abbrev rng (z : Int) : Prop := -2147483648 ≤ z ∧ z < 2147483648
abbrev lrng (z : Int) : Prop := -9223372036854775808 ≤ z ∧ z < 9223372036854775808
theorem oi_toInt {z : Int} (h : rng z) : (Int32.ofInt z).toInt = z := by
  rw [Int32.toInt_ofInt]
  show z.bmod 4294967296 = z
  exact Int.bmod_eq_of_le (by omega) (by omega)
theorem ol_toInt {z : Int} (h : lrng z) : (Int64.ofInt z).toInt = z := by
  rw [Int64.toInt_ofInt]
  show z.bmod 18446744073709551616 = z
  exact Int.bmod_eq_of_le (by omega) (by omega)
theorem oi_of (x : Int32) : Int32.ofInt x.toInt = x := Int32.ofInt_toInt x
theorem oi_lt {a b : Int} (ha : rng a) (hb : rng b) : Int32.ofInt a < Int32.ofInt b ↔ a < b := by
  rw [Int32.lt_iff_toInt_lt, oi_toInt ha, oi_toInt hb]
theorem oi_le {a b : Int} (ha : rng a) (hb : rng b) : Int32.ofInt a ≤ Int32.ofInt b ↔ a ≤ b := by
  rw [Int32.le_iff_toInt_le, oi_toInt ha, oi_toInt hb]
theorem oi_eq {a b : Int} (ha : rng a) (hb : rng b) : Int32.ofInt a = Int32.ofInt b ↔ a = b := by
  rw [← Int32.toInt_inj, oi_toInt ha, oi_toInt hb]
theorem ol_lt {a b : Int} (ha : lrng a) (hb : lrng b) : Int64.ofInt a < Int64.ofInt b ↔ a < b := by
  rw [Int64.lt_iff_toInt_lt, ol_toInt ha, ol_toInt hb]
theorem ol_eq {a b : Int} (ha : lrng a) (hb : lrng b) : Int64.ofInt a = Int64.ofInt b ↔ a = b := by
  rw [← Int64.toInt_inj, ol_toInt ha, ol_toInt hb]
theorem oi_clamp {z : Int} (h0 : 0 ≤ z) (h : z < 2147483648) : (Int32.ofInt z).toNatClampNeg = z.toNat := by
  show (Int32.ofInt z).toInt.toNat = z.toNat
  rw [oi_toInt ⟨by omega, h⟩]
theorem oi_in {z : Int} {n : Nat} (h0 : 0 ≤ z) (h : z < n) (hn : n < 2147483648) : vp_in (Int32.ofInt z) n := by
  rw [vp_in_iff, oi_toInt ⟨by omega, by omega⟩]
  exact ⟨h0, h⟩
def band (a b : Int) : Int := (Int32.ofInt a &&& Int32.ofInt b).toInt
def bor (a b : Int) : Int := (Int32.ofInt a ||| Int32.ofInt b).toInt
def bxor (a b : Int) : Int := (Int32.ofInt a ^^^ Int32.ofInt b).toInt
def bshl (a b : Int) : Int := (Int32.ofInt a <<< (Int32.ofInt b &&& 31)).toInt
def bshr (a b : Int) : Int := (Int32.ofInt a >>> (Int32.ofInt b &&& 31)).toInt
def bushr (a b : Int) : Int := (((Int32.ofInt a).toUInt32 >>> ((Int32.ofInt b).toUInt32 &&& Int32.toUInt32 31)).toInt32).toInt
def irem (a b : Int) : Int := (Int32.ofInt a - Int32.ofInt a / Int32.ofInt b * Int32.ofInt b).toInt
def i2b (a : Int) : Int := ((Int32.ofInt a).toInt8.toInt32).toInt
def lshl (a b : Int) : Int := (Int64.ofInt a <<< ((Int32.ofInt b).toInt64 &&& 63)).toInt
def lshr (a b : Int) : Int := (Int64.ofInt a >>> ((Int32.ofInt b).toInt64 &&& 63)).toInt
def lcm (a b : Int) : Int := if b < a then 1 else if a = b then 0 else -1
