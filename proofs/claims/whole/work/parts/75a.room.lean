/-! the room that is left is no part of what surrounds a walk -/
section ROOM
variable {p9 : Program} {l : Launch} {e : Env} {R : Room} {s : State} {m : MethodId} {args : Array Value} {below : List Frame} {meth : Method} {c : Code} {al : Nat → Nat} {tc : Nat → ClassId} {D : va_G} {A : Nat → Prop} {Z : State → Prop} {rc rs : Nat}
theorem Cx_room {d : Nat} {M : MT} (rc2 rs2 : Nat) (h : Cx d M (p9, l, e, R, s, m, args, below, meth, c, al, tc, D, A, Z, rc, rs)) : Cx d M (p9, l, e, R, s, m, args, below, meth, c, al, tc, D, A, Z, rc2, rs2) := by
  unfold Cx at h ⊢
  exact h
theorem Rt_room {Q : Option MV → Hp → Prop} (rc2 rs2 : Nat) (h : Rt Q (p9, l, e, R, s, m, args, below, meth, c, al, tc, D, A, Z, rc, rs)) : Rt Q (p9, l, e, R, s, m, args, below, meth, c, al, tc, D, A, Z, rc2, rs2) := by
  unfold Rt at h ⊢
  exact h
theorem SCR_room {b L : Nat} {xs : Nat → Int32} (rc2 rs2 : Nat) (h : SCR b L xs (p9, l, e, R, s, m, args, below, meth, c, al, tc, D, A, Z, rc, rs)) : SCR b L xs (p9, l, e, R, s, m, args, below, meth, c, al, tc, D, A, Z, rc2, rs2) := by
  unfold SCR at h ⊢
  exact h
end ROOM
