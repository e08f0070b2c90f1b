/-! PURE 4: sums, who does, seats -/
def sm (f : Nat → Int32) : Nat → Int32
  | 0 => 0
  | k + 1 => sm f k + f k
theorem sm_c {f g : Nat → Int32} {N : Nat} (h : ∀ p, p < N → f p = g p) : sm f N = sm g N := by
  induction N with
  | zero => rfl
  | succ N ih => rw [sm, sm, ih (fun p hp => h p (by omega)), h N (by omega)]
theorem sum_l {L K : Nat} {f : FI} (hK : K ≤ L) (hL : L < 2 ^ 31) : ∀ (j P r : Nat), P + j = K → lp_X0_sum_4 L f (nI K) (r + j) (nI P) (sm f P) = lp_X0_sum_4 L f (nI K) r (nI K) (sm f K) := by
  intro j
  induction j with
  | zero => intro P r hP; rw [show P = K by omega]; rfl
  | succ j ih =>
    intro P r hP
    rw [show r + (j + 1) = (r + j) + 1 by omega, lp_X0_sum_4, if_neg (nle (by omega) (by omega) (by omega)), gd_nI (by omega) hL, nI_clamp (by omega), nI_1]
    exact ih (P + 1) r (by omega)
theorem sum_e {L K : Nat} {f : FI} (hK : K ≤ L) (hL : L < 1000) : f_X0_sum L f (nI K) = some (sm f K) := by
  unfold f_X0_sum
  obtain ⟨r, e⟩ := FU_s K (by omega)
  rw [e]
  refine (sum_l hK (by omega) K 0 (r + 1) (by omega)).trans ?_
  rw [lp_X0_sum_4, if_pos (nI_le (Nat.le_refl K) (by omega))]
theorem sumOf_l {m : MS} {N w : Nat} (hN : N ≤ 8) (h0 : g4_d m 0 = nI N) (hw : w < 4) : ∀ (j P r : Nat), P + j = N → lp_X4_sumOf_4 m (nI w) (r + j) (nI P) (sm (fun p => g4_d m (35 + 4 * p + w)) P) = lp_X4_sumOf_4 m (nI w) r (nI N) (sm (fun p => g4_d m (35 + 4 * p + w)) N) := by
  intro j
  induction j with
  | zero => intro P r hP; rw [show P = N by omega]; rfl
  | succ j ih =>
    intro P r hP
    rw [show r + (j + 1) = (r + j) + 1 by omega, lp_X4_sumOf_4, gd0, cl0, h0, if_neg (nle (by omega) (by omega) (by omega)), its_e (by omega) hw, bd1_e, nI_1]
    exact ih (P + 1) r (by omega)
theorem sumOf_e {m : MS} {N w : Nat} (hN : N ≤ 8) (h0 : g4_d m 0 = nI N) (hw : w < 4) : f_X4_sumOf m (nI w) = some (sm (fun p => g4_d m (35 + 4 * p + w)) N) := by
  unfold f_X4_sumOf
  obtain ⟨r, e⟩ := FU_s N (by omega)
  rw [e]
  refine (sumOf_l hN h0 hw N 0 (r + 1) (by omega)).trans ?_
  rw [lp_X4_sumOf_4, gd0, cl0, h0, if_pos (nI_le (Nat.le_refl N) (by omega))]
/-- how the house is noted, how fresh it is -/
def hsN (d : FI) (N : Nat) : Int32 := sm (fun p => d (35 + 4 * p + 2)) N
def hsF (d : FI) (N : Nat) : Int32 := sm (fun p => d (35 + 4 * p + 1)) N
theorem sumN_e {m : MS} {N M : Nat} (hI : HI N M (g4_d m)) : f_X4_sumOf m 2 = some (hsN (g4_d m) N) := sumOf_e (w := 2) hI.2.1 hI.1 (by decide)
theorem sumF_e {m : MS} {N M : Nat} (hI : HI N M (g4_d m)) : f_X4_sumOf m 1 = some (hsF (g4_d m) N) := sumOf_e (w := 1) hI.2.1 hI.1 (by decide)
theorem allNotes_e {d : FI} {h : HS} {N M : Nat} (hI : HI N M d) (hR : RH N d h) : f_X0_allNotes h = some (hsN d N) := by
  unfold f_X0_allNotes
  rw [hR.1.trans hI.1, sum_e hI.2.1 (by omega), bd1_e]
  exact congrArg some (sm_c (fun p hp => (hR.2.2.2.2.2 p hp).2.2.1))
theorem allFresh_e {d : FI} {h : HS} {N M : Nat} (hI : HI N M d) (hR : RH N d h) : f_X0_allFresh h = some (hsF d N) := by
  unfold f_X0_allFresh
  rw [hR.1.trans hI.1, sum_e hI.2.1 (by omega), bd1_e]
  exact congrArg some (sm_c (fun p hp => (hR.2.2.2.2.2 p hp).2.1))
/-- who do v, as a set, and how many -/
def wdS (g : Nat → Int32) (v : Int32) : Nat → Int32
  | 0 => 0
  | k + 1 => if g k = v then wdS g v k ||| ((1 : Int32) <<< (nI k &&& 31)) else wdS g v k
def wdC (g : Nat → Int32) (v : Int32) : Nat → Int32
  | 0 => 0
  | k + 1 => if g k = v then wdC g v k + 1 else wdC g v k
theorem or0 (x : Int32) : x ||| 0 = x := by
  apply Int32.toBitVec_inj.mp
  simp
theorem add0 (x : Int32) : x + 0 = x := Int32.add_zero x
theorem who_l {d : FI} {h : HS} {N M : Nat} (hI : HI N M d) (hR : RH N d h) : ∀ (j P r : Nat), P + j = N → lp_X0_whoDoAsAsked_4 h (r + j) (nI P) (wdS (deed d N M) (d (3 + M)) P) = lp_X0_whoDoAsAsked_4 h r (nI N) (wdS (deed d N M) (d (3 + M)) N) := by
  have hN := hI.2.1
  have hM := hI.2.2.2.1
  have hm : g0_moment h = nI M := hR.2.2.1.trans hI.2.2.1
  intro j
  induction j with
  | zero => intro P r hP; rw [show P = N by omega]; rfl
  | succ j ih =>
    intro P r hP
    rw [show r + (j + 1) = (r + j) + 1 by omega, lp_X0_whoDoAsAsked_4, hR.1.trans hI.1, if_neg (nle (by omega) (by omega) (by omega)), deedOf_e hI hR (by omega), bd1_e, hm, gd_nI hM (by omega), nI_clamp (by omega), hR.2.2.2.1 M hM, jn1_e, nI_1]
    exact ih (P + 1) r (by omega)
theorem who_e {d : FI} {h : HS} {N M : Nat} (hI : HI N M d) (hR : RH N d h) : f_X0_whoDoAsAsked h = some (wdS (deed d N M) (d (3 + M)) N) := by
  unfold f_X0_whoDoAsAsked
  have hN := hI.2.1
  obtain ⟨r, e⟩ := FU_s N (by omega)
  rw [e]
  refine (who_l hI hR N 0 (r + 1) (by omega)).trans ?_
  rw [lp_X0_whoDoAsAsked_4, hR.1.trans hI.1, if_pos (nI_le (Nat.le_refl N) (by omega))]
theorem many_l {d : FI} {h : HS} {N M : Nat} {v : Int32} (hI : HI N M d) (hR : RH N d h) : ∀ (j P r : Nat), P + j = N → lp_X0_howManyDo_4 h v (r + j) (nI P) (wdC (deed d N M) v P) = lp_X0_howManyDo_4 h v r (nI N) (wdC (deed d N M) v N) := by
  have hN := hI.2.1
  intro j
  induction j with
  | zero => intro P r hP; rw [show P = N by omega]; rfl
  | succ j ih =>
    intro P r hP
    rw [show r + (j + 1) = (r + j) + 1 by omega, lp_X0_howManyDo_4, hR.1.trans hI.1, if_neg (nle (by omega) (by omega) (by omega)), deedOf_e hI hR (by omega), bd1_e, jn1_e, nI_1]
    exact ih (P + 1) r (by omega)
theorem many_e {d : FI} {h : HS} {N M : Nat} (v : Int32) (hI : HI N M d) (hR : RH N d h) : f_X0_howManyDo h v = some (wdC (deed d N M) v N) := by
  unfold f_X0_howManyDo
  have hN := hI.2.1
  obtain ⟨r, e⟩ := FU_s N (by omega)
  rw [e]
  refine (many_l hI hR N 0 (r + 1) (by omega)).trans ?_
  rw [lp_X0_howManyDo_4, hR.1.trans hI.1, if_pos (nI_le (Nat.le_refl N) (by omega))]
theorem doers_l {m : MS} {N M : Nat} {v z : Int32} (hI : HI N M (g4_d m)) : ∀ (j P r : Nat), P + j = N → lp_X4_doers_8 m v z (r + j) (nI P) (wdC (deed (g4_d m) N M) v P) (wdS (deed (g4_d m) N M) v P) = lp_X4_doers_8 m v z r (nI N) (wdC (deed (g4_d m) N M) v N) (wdS (deed (g4_d m) N M) v N) := by
  have hN := hI.2.1
  intro j
  induction j with
  | zero => intro P r hP; rw [show P = N by omega]; rfl
  | succ j ih =>
    intro P r hP
    rw [show r + (j + 1) = (r + j) + 1 by omega, lp_X4_doers_8, gd0, cl0, hI.1, if_neg (nle (by omega) (by omega) (by omega)), doesNow_e hI (by omega), bd1_e, jn1_e, nI_1]
    have ih' := ih (P + 1) r (by omega)
    rw [wdC, wdS] at ih'
    by_cases c : deed (g4_d m) N M P = v
    · rw [if_pos c, if_pos c] at ih'
      rw [if_pos c, jn1_e, jn1_e, if_neg (by decide), if_neg (by decide)]
      exact ih'
    · rw [if_neg c, if_neg c] at ih'
      rw [if_neg c, jn1_e, jn1_e, if_pos rfl, if_pos rfl, or0, add0]
      exact ih'
theorem doers_e {m : MS} {N M : Nat} (v z : Int32) (hI : HI N M (g4_d m)) : f_X4_doers m v z = some (if z = 0 then wdC (deed (g4_d m) N M) v N else wdS (deed (g4_d m) N M) v N) := by
  unfold f_X4_doers
  have hN := hI.2.1
  obtain ⟨r, e⟩ := FU_s N (by omega)
  rw [e]
  refine (doers_l hI N 0 (r + 1) (by omega)).trans ?_
  rw [lp_X4_doers_8, gd0, cl0, hI.1, if_pos (nI_le (Nat.le_refl N) (by omega)), some_ite]
theorem op_now {n : NS} {m : MS} (h : Rel n m) (p1 : Int32) : Op2 (f_X3_now n p1) (f_X4_now m p1) := by
  obtain ⟨N, M, hI, hR⟩ := h.1
  have hM := hI.2.2.2.1
  have hm : g0_moment (g3_house n) = nI M := hR.2.2.1.trans hI.2.2.1
  unfold f_X3_now f_X4_now
  simp only [gd1, gd2, cl1, cl2, hI.2.2.1, hm, gdc hM, gdt hM, clc hM, clt hM, gd_nI hM (show (16 : Nat) < 2 ^ 31 by omega), nI_clamp (show M < 2 ^ 31 by omega), hR.2.1, hR.2.2.2.1 M hM, hR.2.2.2.2.1 M hM, allNotes_e hI hR, allFresh_e hI hR, who_e hI hR, sumN_e hI, sumF_e hI, doers_e _ _ hI, show ((1 : Int32) = 0) = False from by decide, if_true, if_false, reduceCtorEq, bd1_e, bd2_e, jn1_e, bI_0]
  split
  · exact op_r (n' := n) (m' := m) rfl h
  · split
    · exact op_r (n' := n) (m' := m) rfl h
    · split
      · exact op_r (n' := n) (m' := m) rfl h
      · split
        · exact op_r (n' := n) (m' := m) rfl h
        · split
          · exact op_r (n' := n) (m' := m) rfl h
          · split
            · exact op_r (n' := n) (m' := m) rfl h
            · split
              · exact op_r (n' := n) (m' := m) rfl h
              · exact op_f0 h
/-- one more -/
def newD (d : FI) (N : Nat) (k f : Int32) : FI := upd (upd (upd (upd (upd d (35 + 4 * N) k) (35 + 4 * N + 1) f) (35 + 4 * N + 2) 0) (35 + 4 * N + 3) 0) 0 (nI (N + 1))
theorem newD_o {d : FI} {N : Nat} {k f : Int32} {j : Nat} (h0 : j ≠ 0) (h : j < 35 + 4 * N) : newD d N k f j = d j := by
  unfold newD
  rw [upd_n h0, upd_n (by omega), upd_n (by omega), upd_n (by omega), upd_n (by omega)]
theorem newD_0 {d : FI} {N : Nat} {k f : Int32} : newD d N k f 0 = nI (N + 1) := upd_s
theorem newD_k {d : FI} {N : Nat} {k f : Int32} : newD d N k f (35 + 4 * N) = k := by
  unfold newD
  rw [upd_n (by omega), upd_n (by omega), upd_n (by omega), upd_n (by omega), upd_s]
theorem newD_f {d : FI} {N : Nat} {k f : Int32} : newD d N k f (35 + 4 * N + 1) = f := by
  unfold newD
  rw [upd_n (by omega), upd_n (by omega), upd_n (by omega), upd_s]
theorem newD_n {d : FI} {N : Nat} {k f : Int32} : newD d N k f (35 + 4 * N + 2) = 0 := by
  unfold newD
  rw [upd_n (by omega), upd_n (by omega), upd_s]
theorem newD_d {d : FI} {N : Nat} {k f : Int32} : newD d N k f (35 + 4 * N + 3) = 0 := by
  unfold newD
  rw [upd_n (by omega), upd_s]
theorem comesIn_e {m : MS} {N M : Nat} (hI : HI N M (g4_d m)) (h8 : N < 8) (k : Int32) : f_X4_comesIn m k = some (nI N, s4_d m (newD (g4_d m) N k 60)) := by
  unfold f_X4_comesIn
  simp only [gd0, cl0, hI.1, sets0 h8, sets1 h8, sets2 h8, sets3 h8, bd1_e, jn1_e, g4d_s]
  refine congrArg some (congrArg (Prod.mk (nI N)) (congrArg (s4_d m) ?_))
  unfold newD
  rw [upd_n (show (0 : Nat) ≠ 35 + 4 * N + 3 by omega), upd_n (show (0 : Nat) ≠ 35 + 4 * N + 2 by omega), upd_n (show (0 : Nat) ≠ 35 + 4 * N + 1 by omega), upd_n (show (0 : Nat) ≠ 35 + 4 * N by omega), hI.1, nI_1]
theorem seat_e {d : FI} {h : HS} {N M : Nat} (hI : HI N M d) (hR : RH N d h) (h8 : N < 8) (k f : Int32) : f_X0_seat h k f = some (nI N, s0_people (s0_dids (s0_notes (s0_freshes (s0_kinds h (upd (g0_kinds h) N k)) (upd (g0_freshes h) N f)) (upd (g0_notes h) N 0)) (upd (g0_dids h) N 0)) (nI (N + 1))) := by
  unfold f_X0_seat
  have hp : g0_people h = nI N := hR.1.trans hI.1
  rw [hp, if_neg (show ¬ (8 : Int32) ≤ nI N from nI_ge (a := N) (b := 8) h8 (by omega))]
  simp only [gd_nI h8 (show (8 : Nat) < 2 ^ 31 by omega), nI_clamp (show N < 2 ^ 31 by omega), jn1_e, bd1_e]
  refine congrArg some (congrArg (Prod.mk (nI N)) ?_)
  show s0_people (s0_dids (s0_notes (s0_freshes (s0_kinds h (upd (g0_kinds h) N k)) (upd (g0_freshes h) N f)) (upd (g0_notes h) N 0)) (upd (g0_dids h) N 0)) (g0_people h + 1) = _
  rw [hp, nI_1]
theorem RHI_new {d : FI} {h : HS} {N M : Nat} (hI : HI N M d) (hR : RH N d h) (h8 : N < 8) {k : Int32} (hk : ∃ j, j ≤ 5 ∧ k = nI j) (f : Int32) : HI (N + 1) M (newD d N k f) ∧ RH (N + 1) (newD d N k f) (s0_people (s0_dids (s0_notes (s0_freshes (s0_kinds h (upd (g0_kinds h) N k)) (upd (g0_freshes h) N f)) (upd (g0_notes h) N 0)) (upd (g0_dids h) N 0)) (nI (N + 1))) := by
  obtain ⟨a0, a1, a2, a3, a4⟩ := hI
  obtain ⟨b0, b1, b2, b3, b4, b5⟩ := hR
  refine ⟨⟨newD_0, by omega, by rw [newD_o (by omega) (by omega)]; exact a2, a3, fun p hp => ?_⟩, newD_0.symm, by rw [newD_o (by omega) (by omega)]; exact b1, by rw [newD_o (by omega) (by omega)]; exact b2, fun j hj => by rw [newD_o (by omega) (by omega)]; exact b3 j hj, fun j hj => by rw [newD_o (by omega) (by omega)]; exact b4 j hj, fun p hp => ?_⟩
  · by_cases c : p = N
    · subst c
      rw [newD_k, newD_n]
      exact ⟨hk, by decide, by decide⟩
    · rw [newD_o (by omega) (by omega), newD_o (by omega) (by omega)]
      exact a4 p (by omega)
  · show upd (g0_kinds h) N k p = _ ∧ upd (g0_freshes h) N f p = _ ∧ upd (g0_notes h) N 0 p = _ ∧ upd (g0_dids h) N 0 p = _
    by_cases c : p = N
    · subst c
      rw [newD_k, newD_n, newD_f, newD_d, upd_s, upd_s, upd_s, upd_s]
      exact ⟨rfl, rfl, rfl, rfl⟩
    · rw [newD_o (by omega) (by omega), newD_o (by omega) (by omega), newD_o (by omega) (by omega), newD_o (by omega) (by omega), upd_n c, upd_n c, upd_n c, upd_n c]
      exact b5 p (by omega)
theorem op_person {n : NS} {m : MS} (h : Rel n m) (p1 : Int32) : Op2 (f_X3_person n p1) (f_X4_person m p1) := by
  obtain ⟨N, M, hI, hR⟩ := h.1
  have hN := hI.2.1
  unfold f_X3_person f_X4_person
  simp only [isIn_e, in_0_5, gd0, cl0, hI.1, hR.1.trans hI.1, bd1_e, bI_0]
  cases c1 : rng p1 0 5
  · simp only [if_true, if_false, reduceCtorEq, bd1_e, bd2_e, jn1_e, bI_0]; exact op_f0 h
  · obtain ⟨k, hk, e⟩ := rng_nat (n := 5) (by decide) c1
    by_cases c2 : N = 8
    · subst c2
      simp only [show ¬ (nI 8 < (8 : Int32)) from by decide, show (nI 8 = (8 : Int32)) = True from by decide, if_true, if_false, reduceCtorEq, bd1_e, bd2_e, jn1_e, bI_0]; exact op_f1 h
    · have h8 : N < 8 := by omega
      have q1 : nI N < (8 : Int32) := nI_lt (a := N) (b := 8) h8 (by omega)
      have q2 : ¬ nI N = (8 : Int32) := fun q => c2 ((nI_eq (a := N) (b := 8) (by omega) (by omega)).mp q)
      simp only [q1, q2, seat_e hI hR h8, comesIn_e hI h8, if_true, if_false, reduceCtorEq, bd1_e, bd2_e, jn1_e, bI_0]
      exact ⟨_, _, _, rfl, rfl, Rel_house h ⟨N + 1, M, RHI_new hI hR h8 ⟨k, hk, e⟩ 60⟩⟩
theorem isUnder_e (a b : Nat) (ha : a ≤ 5) (hb : b ≤ 5) : f_X3_isUnder (nI a) (nI b) = some (decide (b = 0 ∨ a = b ∨ (a = b + 3 ∧ b < 3))) := by
  unfold f_X3_isUnder
  obtain ⟨r, e⟩ := FU_s 6 (by omega)
  rw [e]
  rcases (show a = 0 ∨ a = 1 ∨ a = 2 ∨ a = 3 ∨ a = 4 ∨ a = 5 by omega) with rfl | rfl | rfl | rfl | rfl | rfl <;> rcases (show b = 0 ∨ b = 1 ∨ b = 2 ∨ b = 3 ∨ b = 4 ∨ b = 5 by omega) with rfl | rfl | rfl | rfl | rfl | rfl <;> rfl
theorem op_as {n : NS} {m : MS} (h : Rel n m) (p1 p2 : Int32) : Op2 (f_X3_as n p1 p2) (f_X4_as m p1 p2) := by
  obtain ⟨N, M, hI, hR⟩ := h.1
  have hN := hI.2.1
  unfold f_X3_as f_X4_as
  simp only [isThere_e (hR.1.trans hI.1), isPerson_e hI, isIn_e, in_0_5, bd1_e, bI_0]
  rcases pin_c hN p1 with c1 | ⟨j, hj, rfl, c1⟩
  · simp only [c1, if_true, if_false, reduceCtorEq, bd1_e, bd2_e, jn1_e, bI_0]; exact op_f0 h
  have h8 : j < 8 := by omega
  obtain ⟨b0, b1, b2, b3⟩ := hR.2.2.2.2.2 j hj
  obtain ⟨k, hk, ek⟩ := (hI.2.2.2.2 j hj).1
  cases c2 : rng p2 0 5
  · simp only [c1, if_true, if_false, reduceCtorEq, bd1_e, bd2_e, jn1_e, bI_0]; exact op_f0 h
  · obtain ⟨b, hb, rfl⟩ := rng_nat (n := 5) (by decide) c2
    simp only [c1, if_true, if_false, reduceCtorEq, bd1_e, bd2_e, jn1_e, bI_0, gd_nI h8 (show (8 : Nat) < 2 ^ 31 by omega), nI_clamp (show j < 2 ^ 31 by omega), b0, b1, its0 h8, its1 h8, ek, isUnder_e k b hk hb]
    have q0 : (nI b = 0) ↔ b = 0 := nI_eq (a := b) (b := 0) (by omega) (by omega)
    have q1 : (nI k = nI b) ↔ k = b := nI_eq (by omega) (by omega)
    have q2 : (nI k = nI b + 3) ↔ k = b + 3 := by rw [show (3 : Int32) = nI 3 from rfl, nI_add]; exact nI_eq (by omega) (by omega)
    have q3 : ((3 : Int32) ≤ nI b) ↔ 3 ≤ b := nI_leI (a := 3) (b := b) (by omega) (by omega)
    simp only [q0, q1, q2, q3]
    by_cases d0 : b = 0
    · simp only [d0, true_or, decide_true, if_true, if_false, reduceCtorEq, bd1_e, bd2_e, jn1_e, bI_0]; exact op_r (n' := n) (m' := m) rfl h
    · by_cases d1 : k = b
      · simp only [d0, d1, true_or, or_true, decide_true, if_true, if_false, reduceCtorEq, bd1_e, bd2_e, jn1_e, bI_0]; exact op_r (n' := n) (m' := m) rfl h
      · by_cases d2 : k = b + 3
        · by_cases d3 : b < 3
          · have d4 : ¬ 3 ≤ b := by omega
            have d5 : ¬ b + 3 = b := by omega
            simp only [d0, d1, d2, d3, d4, d5, and_self, or_true, decide_true, if_true, if_false, reduceCtorEq, bd1_e, bd2_e, jn1_e, bI_0]; exact op_r (n' := n) (m' := m) rfl h
          · exact absurd hk (by omega)
        · simp only [d0, d1, d2, false_and, or_self, decide_false, if_true, if_false, reduceCtorEq, bd1_e, bd2_e, jn1_e, bI_0]; exact op_f2 h
