theorem op_evening {n : NS} {m : MS} (h : Rel n m)  : ∃ (r : Int32) (n' : NS) (m' : MS), f_X3_evening n = some (r, n') ∧ f_X4_evening m = some (r, m') ∧ Rel n' m' := sorry
