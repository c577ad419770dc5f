def Dc (M : MT) (pc : Nat) (i : Instr) (len nx : Nat) : Prop := decode M.2.1 pc = .ok (i, len) ∧ nx = pc + len
