theorem op_play {n : NS} {m : MS} (h : Rel n m) (p1 : Int32) (p2 : Int32) (p3 : Int32) : ∃ (r : Int32) (n' : NS) (m' : MS), f_X3_play n p1 p2 p3 = some (r, n') ∧ f_X4_play m p1 p2 p3 = some (r, m') ∧ Rel n' m' := sorry
theorem op_now {n : NS} {m : MS} (h : Rel n m) (p1 : Int32) : ∃ (r : Int32) (n' : NS) (m' : MS), f_X3_now n p1 = some (r, n') ∧ f_X4_now m p1 = some (r, m') ∧ Rel n' m' := sorry
theorem op_person {n : NS} {m : MS} (h : Rel n m) (p1 : Int32) : ∃ (r : Int32) (n' : NS) (m' : MS), f_X3_person n p1 = some (r, n') ∧ f_X4_person m p1 = some (r, m') ∧ Rel n' m' := sorry
theorem op_of {n : NS} {m : MS} (h : Rel n m) (p1 : Int32) (p2 : Int32) : ∃ (r : Int32) (n' : NS) (m' : MS), f_X3_of n p1 p2 = some (r, n') ∧ f_X4_of m p1 p2 = some (r, m') ∧ Rel n' m' := sorry
theorem op_scores {n : NS} {m : MS} (h : Rel n m) (p1 : Int32) (p2 : Int32) (p3 : Int32) : ∃ (r : Int32) (n' : NS) (m' : MS), f_X3_scores n p1 p2 p3 = some (r, n') ∧ f_X4_scores m p1 p2 p3 = some (r, m') ∧ Rel n' m' := sorry
theorem op_set {n : NS} {m : MS} (h : Rel n m) (p1 : Int32) (p2 : Int32) (p3 : Int32) : ∃ (r : Int32) (n' : NS) (m' : MS), f_X3_set n p1 p2 p3 = some (r, n') ∧ f_X4_set m p1 p2 p3 = some (r, m') ∧ Rel n' m' := sorry
theorem op_turn {n : NS} {m : MS} (h : Rel n m) (p1 : Int32) (p2 : Int32) : ∃ (r : Int32) (n' : NS) (m' : MS), f_X3_turn n p1 p2 = some (r, n') ∧ f_X4_turn m p1 p2 = some (r, m') ∧ Rel n' m' := sorry
theorem op_as {n : NS} {m : MS} (h : Rel n m) (p1 : Int32) (p2 : Int32) : ∃ (r : Int32) (n' : NS) (m' : MS), f_X3_as n p1 p2 = some (r, n') ∧ f_X4_as m p1 p2 = some (r, m') ∧ Rel n' m' := sorry
theorem op_swap {n : NS} {m : MS} (h : Rel n m) (p1 : Int32) (p2 : Int32) : ∃ (r : Int32) (n' : NS) (m' : MS), f_X3_swap n p1 p2 = some (r, n') ∧ f_X4_swap m p1 p2 = some (r, m') ∧ Rel n' m' := sorry
theorem op_moments {n : NS} {m : MS} (h : Rel n m) (p1 : Int32) : ∃ (r : Int32) (n' : NS) (m' : MS), f_X3_moments n p1 = some (r, n') ∧ f_X4_moments m p1 = some (r, m') ∧ Rel n' m' := sorry
theorem op_note {n : NS} {m : MS} (h : Rel n m) (p1 : Int32) (p2 : Int32) : ∃ (r : Int32) (n' : NS) (m' : MS), f_X3_note n p1 p2 = some (r, n') ∧ f_X4_note m p1 p2 = some (r, m') ∧ Rel n' m' := sorry
theorem op_on {n : NS} {m : MS} (h : Rel n m) (p1 : Int32) (p2 : Int32) (p3 : Int32) : ∃ (r : Int32) (n' : NS) (m' : MS), f_X3_on n p1 p2 p3 = some (r, n') ∧ f_X4_on m p1 p2 p3 = some (r, m') ∧ Rel n' m' := sorry
theorem op_house {n : NS} {m : MS} (h : Rel n m) (p1 : Int32) : ∃ (r : Int32) (n' : NS) (m' : MS), f_X3_house n p1 = some (r, n') ∧ f_X4_house m p1 = some (r, m') ∧ Rel n' m' := sorry
theorem op_heard {n : NS} {m : MS} (h : Rel n m) (p1 : Int32) (p2 : Int32) : ∃ (r : Int32) (n' : NS) (m' : MS), f_X3_heard n p1 p2 = some (r, n') ∧ f_X4_heard m p1 p2 = some (r, m') ∧ Rel n' m' := sorry
theorem op_does {n : NS} {m : MS} (h : Rel n m) (p1 : Int32) (p2 : Int32) : ∃ (r : Int32) (n' : NS) (m' : MS), f_X3_does n p1 p2 = some (r, n') ∧ f_X4_does m p1 p2 = some (r, m') ∧ Rel n' m' := sorry
theorem op_comes {n : NS} {m : MS} (h : Rel n m) (p1 : Int32) (p2 : Int32) : ∃ (r : Int32) (n' : NS) (m' : MS), f_X3_comes n p1 p2 = some (r, n') ∧ f_X4_comes m p1 p2 = some (r, m') ∧ Rel n' m' := sorry
theorem op_place {n : NS} {m : MS} (h : Rel n m) (p1 : Int32) (p2 : Int32) : ∃ (r : Int32) (n' : NS) (m' : MS), f_X3_place n p1 p2 = some (r, n') ∧ f_X4_place m p1 p2 = some (r, m') ∧ Rel n' m' := sorry
theorem op_kind {n : NS} {m : MS} (h : Rel n m) (p1 : Int32) (p2 : Int32) : ∃ (r : Int32) (n' : NS) (m' : MS), f_X3_kind n p1 p2 = some (r, n') ∧ f_X4_kind m p1 p2 = some (r, m') ∧ Rel n' m' := sorry
theorem op_fresh {n : NS} {m : MS} (h : Rel n m) (p1 : Int32) (p2 : Int32) (p3 : Int32) : ∃ (r : Int32) (n' : NS) (m' : MS), f_X3_fresh n p1 p2 p3 = some (r, n') ∧ f_X4_fresh m p1 p2 p3 = some (r, m') ∧ Rel n' m' := sorry
theorem op_cue {n : NS} {m : MS} (h : Rel n m) (p1 : Int32) : ∃ (r : Int32) (n' : NS) (m' : MS), f_X3_cue n p1 = some (r, n') ∧ f_X4_cue m p1 = some (r, m') ∧ Rel n' m' := sorry
theorem op_doze {n : NS} {m : MS} (h : Rel n m) (p1 : Int32) : ∃ (r : Int32) (n' : NS) (m' : MS), f_X3_doze n p1 = some (r, n') ∧ f_X4_doze m p1 = some (r, m') ∧ Rel n' m' := sorry
theorem op_tense {n : NS} {m : MS} (h : Rel n m) (p1 : Int32) (p2 : Int32) : ∃ (r : Int32) (n' : NS) (m' : MS), f_X3_tense n p1 p2 = some (r, n') ∧ f_X4_tense m p1 p2 = some (r, m') ∧ Rel n' m' := sorry
theorem op_best {n : NS} {m : MS} (h : Rel n m) (p1 : Int32) : ∃ (r : Int32) (n' : NS) (m' : MS), f_X3_best n p1 = some (r, n') ∧ f_X4_best m p1 = some (r, m') ∧ Rel n' m' := sorry
theorem op_feed {n : NS} {m : MS} (h : Rel n m) (p1 : Int32) (p2 : Int32) : ∃ (r : Int32) (n' : NS) (m' : MS), f_X3_feed n p1 p2 = some (r, n') ∧ f_X4_feed m p1 p2 = some (r, m') ∧ Rel n' m' := sorry
theorem op_wipe {n : NS} {m : MS} (h : Rel n m)  : ∃ (r : Int32) (n' : NS) (m' : MS), f_X3_wipe n = some (r, n') ∧ f_X4_wipe m = some (r, m') ∧ Rel n' m' := sorry
theorem op_evening {n : NS} {m : MS} (h : Rel n m)  : ∃ (r : Int32) (n' : NS) (m' : MS), f_X3_evening n = some (r, n') ∧ f_X4_evening m = some (r, m') ∧ Rel n' m' := sorry
theorem op_sheet {n : NS} {m : MS} (h : Rel n m) (p1 : Int32) (p2 : Int32) (p3 : Int32) : ∃ (r : Int32) (n' : NS) (m' : MS), f_X3_sheet n p1 p2 p3 = some (r, n') ∧ f_X4_sheet m p1 p2 p3 = some (r, m') ∧ Rel n' m' := sorry
theorem op_write {n : NS} {m : MS} (h : Rel n m) (p1 : Int32) (p2 : Int32) (p3 : Int64) : ∃ (r : Int64) (n' : NS) (m' : MS), f_X3_write n p1 p2 p3 = some (r, n') ∧ f_X4_write m p1 p2 p3 = some (r, m') ∧ Rel n' m' := sorry
theorem op_copy {n : NS} {m : MS} (h : Rel n m) (p1 : Int32) (p2 : Int32) (p3 : Int32) (p4 : Int32) (p5 : Int32) : ∃ (r : Int32) (n' : NS) (m' : MS), f_X3_copy n p1 p2 p3 p4 p5 = some (r, n') ∧ f_X4_copy m p1 p2 p3 p4 p5 = some (r, m') ∧ Rel n' m' := sorry
theorem op_lays {n : NS} {m : MS} (h : Rel n m) (p1 : Int32) : ∃ (r : Int32) (n' : NS) (m' : MS), f_X3_lays n p1 = some (r, n') ∧ f_X4_lays m p1 = some (r, m') ∧ Rel n' m' := sorry
theorem op_book {n : NS} {m : MS} (h : Rel n m) (p1 : Int32) (p2 : Int32) : ∃ (r : Int32) (n' : NS) (m' : MS), f_X3_book n p1 p2 = some (r, n') ∧ f_X4_book m p1 p2 = some (r, m') ∧ Rel n' m' := sorry
theorem op_read {n : NS} {m : MS} (h : Rel n m) (p1 : Int32) (p2 : Int32) : ∃ (r : Int32) (n' : NS) (m' : MS), f_X3_read n p1 p2 = some (r, n') ∧ f_X4_read m p1 p2 = some (r, m') ∧ Rel n' m' := sorry
theorem op_image {n : NS} {m : MS} (h : Rel n m)  : ∃ (r : Int32) (n' : NS) (m' : MS), f_X3_image n = some (r, n') ∧ f_X4_image m = some (r, m') ∧ Rel n' m' := sorry
theorem op_undo {n : NS} {m : MS} (h : Rel n m)  : ∃ (r : Int32) (n' : NS) (m' : MS), f_X3_undo n = some (r, n') ∧ f_X4_undo m = some (r, m') ∧ Rel n' m' := sorry
theorem op_tear {n : NS} {m : MS} (h : Rel n m)  : ∃ (r : Int32) (n' : NS) (m' : MS), f_X3_tear n = some (r, n') ∧ f_X4_tear m = some (r, m') ∧ Rel n' m' := sorry
theorem op_count {n : NS} {m : MS} (h : Rel n m) (p1 : Int32) : ∃ (r : Int32) (n' : NS) (m' : MS), f_X3_count n p1 = some (r, n') ∧ f_X4_count m p1 = some (r, m') ∧ Rel n' m' := sorry
theorem op_status {n : NS} {m : MS} (h : Rel n m) (p1 : Int32) : ∃ (r : Int32) (n' : NS) (m' : MS), f_X3_status n p1 = some (r, n') ∧ f_X4_status m p1 = some (r, m') ∧ Rel n' m' := sorry
