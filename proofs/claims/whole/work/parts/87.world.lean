/-! from the building layer to the whole system's -/
theorem b_to_v {p : Program} {l : Launch} {e : Env} {R : Room} {s : State} {m : MethodId} {args : Array Value} {below : List Frame} {meth : Method} {c : Code} {al : Nat → Nat} {tc : Nat → ClassId} {D : va_G} {A : Nat → Prop} {Z : State → Prop} {rc rs pc : Nat} {ls ls' : List (Option MV)} {w : va_W} {g : Hp} (is : List Nat) (hn : va_nd is = true) (hs : is.map (fun i => w[i]?) = (WS al tc g).map some) (hls : ∀ (i : Nat) (v : MV), ls'[i]? = some (some v) → ∃ u : MV, ls[i]? = some (some u) ∧ conc id u = conc al v)
    (k : VW (p, l, e, R, s, m, args, below, meth, c, al, tc, D, A, Z, rc, rs) pc ls' [] g) : BW (p, l, e, R, s, m, args, below, meth, c, tc, D, A, Z) rc rs pc ls [] w := by
  intro H locs la cells slots hP hD hS hl h1 h2
  have hf : is.filterMap (fun i => w[i]?) = WS al tc g := by
    have e1 : is.filterMap (fun i => w[i]?) = (is.map (fun i => w[i]?)).filterMap id := by
      rw [List.filterMap_map]
      rfl
    rw [e1, hs, List.filterMap_map]
    exact List.filterMap_some
  exact k H locs la cells slots (hP.sub is hf) (hD.sub is hn hs) hS ⟨hl.1, hl.2.1, fun i v hi => by
    obtain ⟨u, a, b⟩ := hls i v hi
    rw [← b]
    exact hl.2.2 i u a⟩ h1 h2
def isL : List Nat := [0, 1, 26, 37, 40, 41, 42, 43, 2, 3, 4, 27, 30, 33, 34, 35, 36, 28, 29, 31, 32, 38, 39, 5, 7, 9, 11, 13, 15, 17, 19, 6, 8, 10, 12, 14, 16, 18, 20, 21, 22, 23, 24, 25, 44, 45, 46, 47, 48, 49, 50, 51, 52, 53, 54, 55, 56, 57, 58, 59, 60, 61, 62, 63, 64, 65, 66, 67, 68]
theorem isL_nd : va_nd isL = true := by decide +kernel
set_option maxHeartbeats 8000000 in
set_option maxRecDepth 100000 in
theorem world_end {tc : Nat → ClassId} {w7 w8 : va_W} {x m9 : Nat} (o9 b : Nat) (h7 : Q7 tc x w7) (h8 : Q8 tc m9 w8) : ∃ al : Nat → Nat, al 0 = x ∧ al 44 = m9 ∧ al 68 = o9 ∧ al 69 = b ∧ isL.map (fun i => ((w7 ++ w8) ++ [(o9, aL (tc 2) 1)])[i]?) = (WS al tc hZ).map some := by
  obtain ⟨ro, se, le, pl, t1, t2, t3, w4, w6, w1, ⟨pa, ja, oa, P, K, J, rfl⟩, ⟨g, g1, g2, sc, s1, s2, fb, go, tr, fo, rfl⟩, ⟨l1, l2, rfl⟩, rfl⟩ := h7
  obtain ⟨z, rfl⟩ := h8
  have e8 : (fun j => if j < 8 then some (P j) else none) = fun j => (RF 8 j).map (fun k => [x, ro, se, le, pl, t1, t2, t3, pa, ja, oa, g, sc, fb, go, tr, fo, g1, g2, s1, s2, l1, l2, P 0, P 1, P 2, P 3, P 4, P 5, P 6, P 7, K 0, K 1, K 2, K 3, K 4, K 5, K 6, K 7, J 0, J 1, J 2, J 3, J 4, m9, z 2, z 3, z 4, z 5, z 6, z 7, z 8, z 9, z 10, z 12, z 13, z 14, z 15, z 16, z 17, z 21, z 22, z 29, z 30, z 32, z 33, z 34, z 35, o9, b].getD k 0) := by
    funext j
    match j with
    | 0 => rfl
    | 1 => rfl
    | 2 => rfl
    | 3 => rfl
    | 4 => rfl
    | 5 => rfl
    | 6 => rfl
    | 7 => rfl
    | j + 8 =>
      rw [if_neg (by omega)]
      rfl
  have e9 : (fun j => if j < 5 then some (J j) else none) = fun j => (RF 9 j).map (fun k => [x, ro, se, le, pl, t1, t2, t3, pa, ja, oa, g, sc, fb, go, tr, fo, g1, g2, s1, s2, l1, l2, P 0, P 1, P 2, P 3, P 4, P 5, P 6, P 7, K 0, K 1, K 2, K 3, K 4, K 5, K 6, K 7, J 0, J 1, J 2, J 3, J 4, m9, z 2, z 3, z 4, z 5, z 6, z 7, z 8, z 9, z 10, z 12, z 13, z 14, z 15, z 16, z 17, z 21, z 22, z 29, z 30, z 32, z 33, z 34, z 35, o9, b].getD k 0) := by
    funext j
    match j with
    | 0 => rfl
    | 1 => rfl
    | 2 => rfl
    | 3 => rfl
    | 4 => rfl
    | j + 5 =>
      rw [if_neg (by omega)]
      rfl
  refine ⟨fun k => [x, ro, se, le, pl, t1, t2, t3, pa, ja, oa, g, sc, fb, go, tr, fo, g1, g2, s1, s2, l1, l2, P 0, P 1, P 2, P 3, P 4, P 5, P 6, P 7, K 0, K 1, K 2, K 3, K 4, K 5, K 6, K 7, J 0, J 1, J 2, J 3, J 4, m9, z 2, z 3, z 4, z 5, z 6, z 7, z 8, z 9, z 10, z 12, z 13, z 14, z 15, z 16, z 17, z 21, z 22, z 29, z 30, z 32, z 33, z 34, z 35, o9, b].getD k 0, rfl, rfl, rfl, rfl, ?_⟩
  unfold R4 aQ
  rw [e8, e9]
  rfl
