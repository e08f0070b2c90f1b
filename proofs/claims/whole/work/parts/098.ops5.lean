/-! PURE 7: what is best -/
theorem trial_t {n : NS} {d : FI} {N M : Nat} (hI : HI N M d) (hR : RH N d (g3_house n)) (t0 : HS) : ∃ t, f_X3_startTrial (s3_trial n t0) = some (s3_trial n t) ∧ RH N d t := by
  obtain ⟨t, e, hT⟩ := trial_e (n := s3_trial n t0) hI hR
  exact ⟨t, e, hT⟩
theorem Lm_sw {m ml : MS} {d : FI} (h : Lm m ml d) {a b : Nat} (ha : a < 8) (hb : b < 8) : Lm m (s4_d ml (swK 4 a b d)) (swK 4 a b d) := by
  obtain ⟨dg, x, rfl, h1, h2⟩ := h
  refine ⟨dg, x, rfl, h1, fun j hj => ?_⟩
  have e : swK 4 a b d j = d j := by
    unfold swK
    rw [if_pos (by omega), if_neg (by omega), if_neg (by omega)]
  rw [e]
  exact h2 j hj
theorem place_l {n : NS} {m : MS} {N M p K : Nat} (h : Rel n m) (hI : HI N M (g4_d m)) (hR : RH N (g4_d m) (g3_house n)) (hp : p < N) (hK : K < 1000) : ∀ (j i r : Nat) (W X : Int32) (t : HS) (ml : MS), i + j = N → Lm m ml (g4_d m) → Op2 (lp_X3_place_44 (nI p) (nI K) (r + 1 + j) (nI i) W X (s3_trial n t)) (lp_X4_place_44 (nI p) (nI K) (r + 1 + j) (nI i) X W ml) := by
  have hN := hI.2.1
  have hpe : ∀ t, g0_people (g3_house (s3_trial n t)) = nI N := fun t => hR.1.trans hI.1
  intro j
  induction j with
  | zero =>
    intro i r W X t ml hi hL
    rw [Nat.add_zero, lp_X3_place_44, lp_X4_place_44, hpe, gd0, cl0, Lm_d hL, hI.1, if_pos (nI_le (by omega) (by omega)), if_pos (nI_le (by omega) (by omega))]
    by_cases c : 0 ≤ W
    · rw [if_pos c, if_pos c]
      exact ⟨_, _, _, rfl, rfl, Rel_t (Lm_rel h hL) _⟩
    · rw [if_neg c, if_neg c]
      exact op_f3 (Rel_t (Lm_rel h hL) _)
  | succ j ih =>
    intro i r W X t ml hi hL
    rw [show r + 1 + (j + 1) = (r + 1 + j) + 1 by omega, lp_X3_place_44, lp_X4_place_44, hpe, gd0, cl0, Lm_d hL, hI.1, if_neg (nle (by omega) (by omega) (by omega)), if_neg (nle (by omega) (by omega) (by omega))]
    by_cases c : i = p
    · subst c
      simp only [if_true, if_false, reduceCtorEq, bd1_e, bd2_e, bd3_e, jn1_e, jn2_e, bI_0, nI_1]
      exact ih (i + 1) r W X t ml (by omega) hL
    · have c' : ¬ nI i = nI p := fun q => c ((nI_eq (by omega) (by omega)).mp q)
      obtain ⟨t1, e1, hT⟩ := trial_t hI hR t
      obtain ⟨t2, e2, hI2, hT2⟩ := changeSeats_e hI hT hp (show i < N by omega) (fun q => c q.symm)
      obtain ⟨t3, e3, hT3⟩ := allNotesOn_e hK hI2 hT2
      obtain ⟨m2, e4, hL2⟩ := houseBehind_e hK (Lm_sw (a := p) (b := i) hL (by omega) (by omega)) hI2
      have e2' : f_X0_changeSeats (g3_trial (s3_trial n t1)) (nI p) (nI i) = some t2 := e2
      have e3' : f_X0_allNotesOn (g3_trial (s3_trial (s3_trial n t1) t2)) (nI K) = some (hsN (itD N K M (swK 4 p i (g4_d m))) N, t3) := e3
      simp only [c', e1, e2', e3', swaps_e (show p < 8 by omega) (show i < 8 by omega) (fun q => c q.symm), Lm_d hL, e4, if_true, if_false, reduceCtorEq, bd1_e, bd2_e, bd3_e, jn1_e, jn2_e, bI_0, nI_1]
      by_cases c2 : hsN (itD N K M (swK 4 p i (g4_d m))) N ≤ X
      · simp only [c2, if_true, if_false, reduceCtorEq, bd1_e, bd2_e, bd3_e, jn1_e, jn2_e, bI_0]
        exact ih (i + 1) r W X t3 m2 (by omega) hL2
      · simp only [c2, if_true, if_false, reduceCtorEq, bd1_e, bd2_e, bd3_e, jn1_e, jn2_e, bI_0]
        exact ih (i + 1) r (nI i) _ t3 m2 (by omega) hL2
theorem FU_1 (j : Nat) (h : j < 1000) : ∃ r, FU = r + 1 + j := FU_s j (by omega)
theorem op_place {n : NS} {m : MS} (h : Rel n m) (p1 p2 : Int32) : Op2 (f_X3_place n p1 p2) (f_X4_place m p1 p2) := by
  obtain ⟨N, M, hI, hR⟩ := h.1
  have hN := hI.2.1
  unfold f_X3_place f_X4_place
  simp only [isThere_e (hR.1.trans hI.1), isPerson_e hI, isIn_e, isShort_e, bd1_e, bI_0]
  rcases pin_c hN p1 with c1 | ⟨p, hp, rfl, c1⟩
  · simp only [c1, if_true, if_false, reduceCtorEq, bd1_e, bd2_e, bd3_e, jn1_e, jn2_e, bI_0]; exact op_f0 h
  cases c2 : rng p2 1 100
  · simp only [c1, if_true, if_false, reduceCtorEq, bd1_e, bd2_e, bd3_e, jn1_e, jn2_e, bI_0]; exact op_f0 h
  obtain ⟨K, hK, hK1, rfl⟩ := rng_nat1 (n := 100) (by decide) (by decide) c2
  obtain ⟨t, et, hT⟩ := trial_e hI hR
  obtain ⟨t2, et2, hT2⟩ := allNotesOn_e (K := K) (by omega) hI hT
  obtain ⟨m1, em1, hL1⟩ := Lm_start m
  obtain ⟨m2, em2, hL2⟩ := houseBehind_e (K := K) (by omega) hL1 hI
  have et2' : f_X0_allNotesOn (g3_trial (s3_trial n t)) (nI K) = some (hsN (itD N K M (g4_d m)) N, t2) := et2
  obtain ⟨r, e⟩ := FU_1 N (by omega)
  simp only [c1, et, et2', em1, em2, if_true, if_false, reduceCtorEq, bd1_e, bd2_e, bd3_e, jn1_e, jn2_e, bI_0]
  rw [e]
  exact place_l h hI hR hp (by omega) N 0 r _ _ t2 m2 (by omega) hL2
theorem kind_l {n : NS} {m : MS} {N M p K : Nat} (h : Rel n m) (hI : HI N M (g4_d m)) (hR : RH N (g4_d m) (g3_house n)) (hp : p < N) (hK : K < 1000) : ∀ (j i r : Nat) (W X : Int32) (t : HS) (ml : MS), i + j = 6 → Lm m ml (g4_d m) → Op2 (lp_X3_kind_35 (nI p) (nI K) (r + 1 + j) (nI i) W X (s3_trial n t)) (lp_X4_kind_42 (nI p) (nI K) (r + 1 + j) (nI i) X W ml) := by
  have hN := hI.2.1
  have h8 : p < 8 := by omega
  intro j
  induction j with
  | zero =>
    intro i r W X t ml hi hL
    rw [Nat.add_zero, lp_X3_kind_35, lp_X4_kind_42, show i = 6 by omega, if_pos (show (6 : Int32) ≤ nI 6 by decide), if_pos (show (6 : Int32) ≤ nI 6 by decide)]
    exact ⟨_, _, _, rfl, rfl, Rel_t (Lm_rel h hL) _⟩
  | succ j ih =>
    intro i r W X t ml hi hL
    have g6 : ¬ (6 : Int32) ≤ nI i := nle (a := i) (b := 6) (by omega) (by omega) (by omega)
    obtain ⟨t1, e1, hT⟩ := trial_t hI hR t
    obtain ⟨hI2, hT2⟩ := RHI_k hI hT hp (v := nI i) ⟨i, by omega, rfl⟩
    obtain ⟨t3, e3, hT3⟩ := goOn_e hK hI2 hT2
    obtain ⟨m2, e4, hL2⟩ := behind_e (w := 35 + 4 * p + 2) hK (by omega) (Lm_upd hL (k := 35 + 4 * p) (by omega) (nI i)) hI2
    have e3' : f_X0_goOn (g3_trial (s3_trial (s3_trial n t1) (s0_kinds (g3_trial (s3_trial n t1)) (upd (g0_kinds (g3_trial (s3_trial n t1))) p (nI i))))) (nI K) = some t3 := e3
    have hn : g0_notes (g3_trial (s3_trial (s3_trial (s3_trial n t1) (s0_kinds (g3_trial (s3_trial n t1)) (upd (g0_kinds (g3_trial (s3_trial n t1))) p (nI i)))) t3)) p = itD N K M (upd (g4_d m) (35 + 4 * p) (nI i)) (35 + 4 * p + 2) := (hT3.2.2.2.2.2 p hp).2.2.1
    rw [show r + 1 + (j + 1) = (r + 1 + j) + 1 by omega, lp_X3_kind_35, lp_X4_kind_42]
    simp only [g6, e1, gd_nI h8 (show (8 : Nat) < 2 ^ 31 by omega), nI_clamp (show p < 2 ^ 31 by omega), e3', hn, sets0 h8, Lm_d hL, f_X4_whereNote, show ((35 : Int32) + 4 * nI p) + 2 = nI (35 + 4 * p + 2) from ix_its p 2, e4, if_true, if_false, reduceCtorEq, bd1_e, bd2_e, bd3_e, jn1_e, jn2_e, bI_0, nI_1]
    by_cases c2 : itD N K M (upd (g4_d m) (35 + 4 * p) (nI i)) (35 + 4 * p + 2) ≤ X
    · simp only [c2, if_true, if_false, reduceCtorEq, bd1_e, bd2_e, bd3_e, jn1_e, jn2_e, bI_0]
      exact ih (i + 1) r W X t3 m2 (by omega) hL2
    · simp only [c2, if_true, if_false, reduceCtorEq, bd1_e, bd2_e, bd3_e, jn1_e, jn2_e, bI_0]
      exact ih (i + 1) r (nI i) _ t3 m2 (by omega) hL2
theorem op_kind {n : NS} {m : MS} (h : Rel n m) (p1 p2 : Int32) : Op2 (f_X3_kind n p1 p2) (f_X4_kind m p1 p2) := by
  obtain ⟨N, M, hI, hR⟩ := h.1
  have hN := hI.2.1
  unfold f_X3_kind f_X4_kind
  simp only [isThere_e (hR.1.trans hI.1), isPerson_e hI, isIn_e, isShort_e, bd1_e, bI_0]
  rcases pin_c hN p1 with c1 | ⟨p, hp, rfl, c1⟩
  · simp only [c1, if_true, if_false, reduceCtorEq, bd1_e, bd2_e, bd3_e, jn1_e, jn2_e, bI_0]; exact op_f0 h
  cases c2 : rng p2 1 100
  · simp only [c1, if_true, if_false, reduceCtorEq, bd1_e, bd2_e, bd3_e, jn1_e, jn2_e, bI_0]; exact op_f0 h
  obtain ⟨K, hK, hK1, rfl⟩ := rng_nat1 (n := 100) (by decide) (by decide) c2
  obtain ⟨m1, em1, hL1⟩ := Lm_start m
  obtain ⟨r, e⟩ := FU_1 6 (by omega)
  simp only [c1, em1, if_true, if_false, reduceCtorEq, bd1_e, bd2_e, bd3_e, jn1_e, jn2_e, bI_0]
  rw [e]
  exact kind_l h hI hR hp (by omega) 6 0 r _ _ (g3_trial n) m1 (by omega) hL1
theorem fresh_l {n : NS} {m : MS} {N M p K : Nat} {v : Int32} (h : Rel n m) (hI : HI N M (g4_d m)) (hR : RH N (g4_d m) (g3_house n)) (hp : p < N) (hK : K < 1000) : ∀ (j i r : Nat) (t : HS) (ml : MS), i + j = 100 → Lm m ml (g4_d m) → Op2 (lp_X3_fresh_41 (nI p) (nI K) v (r + 1 + j) (nI i) (s3_trial n t)) (lp_X4_fresh_49 (nI p) (nI K) v (r + 1 + j) (nI i) ml) := by
  have hN := hI.2.1
  have h8 : p < 8 := by omega
  intro j
  induction j with
  | zero =>
    intro i r t ml hi hL
    rw [Nat.add_zero, lp_X3_fresh_41, lp_X4_fresh_49, show i = 100 by omega, if_pos (show (99 : Int32) < nI 100 by decide), if_pos (show (99 : Int32) < nI 100 by decide)]
    exact op_f3 (Rel_t (Lm_rel h hL) _)
  | succ j ih =>
    intro i r t ml hi hL
    have g6 : ¬ (99 : Int32) < nI i := nI_nlt (a := 99) (b := i) (by omega) (by omega)
    obtain ⟨t1, e1, hT⟩ := trial_t hI hR t
    obtain ⟨hI2, hT2⟩ := RHI_f hI hT hp (nI i)
    obtain ⟨t3, e3, hT3⟩ := goOn_e hK hI2 hT2
    obtain ⟨m2, e4, hL2⟩ := behind_e (w := 35 + 4 * p + 2) hK (by omega) (Lm_upd hL (k := 35 + 4 * p + 1) (by omega) (nI i)) hI2
    have e3' : f_X0_goOn (g3_trial (s3_trial (s3_trial n t1) (s0_freshes (g3_trial (s3_trial n t1)) (upd (g0_freshes (g3_trial (s3_trial n t1))) p (nI i))))) (nI K) = some t3 := e3
    have hn : g0_notes (g3_trial (s3_trial (s3_trial (s3_trial n t1) (s0_freshes (g3_trial (s3_trial n t1)) (upd (g0_freshes (g3_trial (s3_trial n t1))) p (nI i)))) t3)) p = itD N K M (upd (g4_d m) (35 + 4 * p + 1) (nI i)) (35 + 4 * p + 2) := (hT3.2.2.2.2.2 p hp).2.2.1
    rw [show r + 1 + (j + 1) = (r + 1 + j) + 1 by omega, lp_X3_fresh_41, lp_X4_fresh_49]
    simp only [g6, e1, gd_nI h8 (show (8 : Nat) < 2 ^ 31 by omega), nI_clamp (show p < 2 ^ 31 by omega), e3', hn, sets1 h8, Lm_d hL, f_X4_whereNote, show ((35 : Int32) + 4 * nI p) + 2 = nI (35 + 4 * p + 2) from ix_its p 2, e4, if_true, if_false, reduceCtorEq, bd1_e, bd2_e, bd3_e, jn1_e, jn2_e, bI_0, nI_1]
    by_cases c2 : itD N K M (upd (g4_d m) (35 + 4 * p + 1) (nI i)) (35 + 4 * p + 2) < v
    · simp only [c2, if_true, if_false, reduceCtorEq, bd1_e, bd2_e, bd3_e, jn1_e, jn2_e, bI_0]
      exact ih (i + 1) r t3 m2 (by omega) hL2
    · simp only [c2, if_true, if_false, reduceCtorEq, bd1_e, bd2_e, bd3_e, jn1_e, jn2_e, bI_0]
      exact ⟨_, _, _, rfl, rfl, Rel_t (Lm_rel h hL2) _⟩
theorem op_fresh {n : NS} {m : MS} (h : Rel n m) (p1 p2 p3 : Int32) : Op2 (f_X3_fresh n p1 p2 p3) (f_X4_fresh m p1 p2 p3) := by
  obtain ⟨N, M, hI, hR⟩ := h.1
  have hN := hI.2.1
  unfold f_X3_fresh f_X4_fresh
  simp only [isThere_e (hR.1.trans hI.1), isPerson_e hI, isIn_e, isShort_e, in_note, bd1_e, bI_0]
  rcases pin_c hN p1 with c1 | ⟨p, hp, rfl, c1⟩
  · simp only [c1, if_true, if_false, reduceCtorEq, bd1_e, bd2_e, bd3_e, jn1_e, jn2_e, bI_0]; exact op_f0 h
  cases c2 : rng p2 1 100
  · simp only [c1, if_true, if_false, reduceCtorEq, bd1_e, bd2_e, bd3_e, jn1_e, jn2_e, bI_0]; exact op_f0 h
  cases c3 : rng p3 (-9999) 9999
  · simp only [c1, if_true, if_false, reduceCtorEq, bd1_e, bd2_e, bd3_e, jn1_e, jn2_e, bI_0]; exact op_f0 h
  obtain ⟨K, hK, hK1, rfl⟩ := rng_nat1 (n := 100) (by decide) (by decide) c2
  obtain ⟨m1, em1, hL1⟩ := Lm_start m
  obtain ⟨r, e⟩ := FU_1 100 (by omega)
  simp only [c1, em1, if_true, if_false, reduceCtorEq, bd1_e, bd2_e, bd3_e, jn1_e, jn2_e, bI_0]
  rw [e]
  exact fresh_l h hI hR hp (by omega) 100 0 r (g3_trial n) m1 (by omega) hL1
/-- the house's note stays small -/
theorem sm_r {f : Nat → Int32} {N : Nat} (hN : N ≤ 8) (h : ∀ p, p < N → -9999 ≤ (f p).toInt ∧ (f p).toInt ≤ 9999) : -9999 * (N : Int) ≤ (sm f N).toInt ∧ (sm f N).toInt ≤ 9999 * (N : Int) := by
  induction N with
  | zero => exact ⟨show -9999 * ((0 : Nat) : Int) ≤ (0 : Int32).toInt by decide, show (0 : Int32).toInt ≤ 9999 * ((0 : Nat) : Int) by decide⟩
  | succ N ih =>
    obtain ⟨a, b⟩ := ih (by omega) (fun p hp => h p (by omega))
    obtain ⟨c, d⟩ := h N (by omega)
    rw [sm, Int32.toInt_add]
    have e : ((sm f N).toInt + (f N).toInt).bmod (2 ^ 32) = (sm f N).toInt + (f N).toInt := by
      unfold Int.bmod
      simp only
      split <;> omega
    rw [e]
    omega
theorem hsN_r {d : FI} {N M : Nat} (hI : HI N M d) : -79992 ≤ (hsN d N).toInt ∧ (hsN d N).toInt ≤ 79992 := by
  have hN := hI.2.1
  obtain ⟨a, b⟩ := sm_r (f := fun p => d (35 + 4 * p + 2)) hN (fun p hp => (hI.2.2.2.2 p hp).2)
  unfold hsN
  omega
theorem rem16 {i : Nat} (hi : i < 1000) : nI i - nI i / (16 : Int32) * (16 : Int32) = nI (i % 16) := pk_rem (d := 16) (by omega) (by omega) (by omega)
theorem div16 {i : Nat} (hi : i < 1000) : nI i / (16 : Int32) = nI (i / 16) := pk_div (d := 16) (by omega) (by omega) (by omega)
theorem cue_1 {n : NS} {m : MS} {N M K : Nat} (h : Rel n m) (hI : HI N M (g4_d m)) (hR : RH N (g4_d m) (g3_house n)) (hK : K < 1000) (i : Nat) (hi : i < 80) (r : Nat) (W X X' : Int32) (t : HS) (ml : MS) (hL : Lm m ml (g4_d m)) (c : ∀ z : Int32, -79992 ≤ z.toInt → (z ≤ X ↔ z ≤ X')) (ok : ∀ (W2 X2 X3 : Int32) (t : HS) (ml : MS), Lm m ml (g4_d m) → (X2 = X3 ∨ (W2 = W ∧ X2 = X ∧ X3 = X')) → Op2 (lp_X3_cue_25 (nI K) r (nI (i + 1)) W2 X2 (s3_trial n t)) (lp_X4_cue_37 (nI K) r (nI (i + 1)) X3 W2 ml)) : Op2 (lp_X3_cue_25 (nI K) (r + 1) (nI i) W X (s3_trial n t)) (lp_X4_cue_37 (nI K) (r + 1) (nI i) X' W ml) := by
  have g6 : ¬ (80 : Int32) ≤ nI i := nle (a := i) (b := 80) (by omega) (by omega) (by omega)
  have h16 : i % 16 < 16 := by omega
  obtain ⟨t1, e1, hT⟩ := trial_t hI hR t
  obtain ⟨hI2, hT2⟩ := RHI_cue hI hT h16 (nI (i / 16))
  obtain ⟨t3, e3, hT3⟩ := allNotesOn_e hK hI2 hT2
  obtain ⟨m2, e4, hL2⟩ := houseBehind_e hK (Lm_upd hL (k := 3 + i % 16) (by omega) (nI (i / 16))) hI2
  have e3' : f_X0_allNotesOn (g3_trial (s3_trial (s3_trial n t1) (s0_cues (g3_trial (s3_trial n t1)) (upd (g0_cues (g3_trial (s3_trial n t1))) (i % 16) (nI (i / 16)))))) (nI K) = some (hsN (itD N K M (upd (g4_d m) (3 + i % 16) (nI (i / 16)))) N, t3) := e3
  rw [lp_X3_cue_25, lp_X4_cue_37]
  simp only [rem16 (show i < 1000 by omega)]
  simp only [g6, e1, div16 (show i < 1000 by omega), gd_nI h16 (show (16 : Nat) < 2 ^ 31 by omega), nI_clamp (show i % 16 < 2 ^ 31 by omega), e3', gdc h16, clc h16, Lm_d hL, e4, if_true, if_false, reduceCtorEq, bd1_e, bd2_e, bd3_e, jn1_e, jn2_e, bI_0, nI_1]
  have q := c (hsN (itD N K M (upd (g4_d m) (3 + i % 16) (nI (i / 16)))) N) (hsN_r (it_hi K M _ hI2)).1
  by_cases c2 : hsN (itD N K M (upd (g4_d m) (3 + i % 16) (nI (i / 16)))) N ≤ X
  · simp only [c2, q.mp c2, if_true, if_false, reduceCtorEq, bd1_e, bd2_e, bd3_e, jn1_e, jn2_e, bI_0]
    exact ok W X X' t3 m2 hL2 (Or.inr ⟨rfl, rfl, rfl⟩)
  · have c3 : ¬ hsN (itD N K M (upd (g4_d m) (3 + i % 16) (nI (i / 16)))) N ≤ X' := fun z => c2 (q.mpr z)
    simp only [c2, c3, if_true, if_false, reduceCtorEq, bd1_e, bd2_e, bd3_e, jn1_e, jn2_e, bI_0]
    exact ok (nI i) _ _ t3 m2 hL2 (Or.inl rfl)
theorem cue_l {n : NS} {m : MS} {N M K : Nat} (h : Rel n m) (hI : HI N M (g4_d m)) (hR : RH N (g4_d m) (g3_house n)) (hK : K < 1000) : ∀ (j i r : Nat) (W X X' : Int32) (t : HS) (ml : MS), i + j = 80 → Lm m ml (g4_d m) → (∀ z : Int32, -79992 ≤ z.toInt → (z ≤ X ↔ z ≤ X')) → Op2 (lp_X3_cue_25 (nI K) (r + 1 + j) (nI i) W X (s3_trial n t)) (lp_X4_cue_37 (nI K) (r + 1 + j) (nI i) X' W ml) := by
  intro j
  induction j with
  | zero =>
    intro i r W X X' t ml hi hL hc
    rw [Nat.add_zero, lp_X3_cue_25, lp_X4_cue_37, show i = 80 by omega, if_pos (show (80 : Int32) ≤ nI 80 by decide), if_pos (show (80 : Int32) ≤ nI 80 by decide)]
    exact ⟨_, _, _, rfl, rfl, Rel_t (Lm_rel h hL) _⟩
  | succ j ih =>
    intro i r W X X' t ml hi hL hc
    rw [show r + 1 + (j + 1) = (r + 1 + j) + 1 by omega]
    refine cue_1 h hI hR hK i (by omega) (r + 1 + j) W X X' t ml hL hc (fun W2 X2 X3 t ml hL2 hx => ih (i + 1) r W2 X2 X3 t ml (by omega) hL2 ?_)
    rcases hx with rfl | ⟨-, rfl, rfl⟩
    · exact fun _ _ => Iff.rfl
    · exact hc
theorem op_cue {n : NS} {m : MS} (h : Rel n m) (p1 : Int32) : Op2 (f_X3_cue n p1) (f_X4_cue m p1) := by
  obtain ⟨N, M, hI, hR⟩ := h.1
  unfold f_X3_cue f_X4_cue
  simp only [isIn_e, in_1_60, bd1_e, bI_0]
  cases c2 : rng p1 1 60
  · simp only [if_true, if_false, reduceCtorEq, bd1_e, bd2_e, bd3_e, jn1_e, jn2_e, bI_0]; exact op_f0 h
  obtain ⟨K, hK, hK1, rfl⟩ := rng_nat1 (n := 60) (by decide) (by decide) c2
  obtain ⟨m1, em1, hL1⟩ := Lm_start m
  obtain ⟨r, e⟩ := FU_1 80 (by omega)
  simp only [em1, if_true, if_false, reduceCtorEq, bd1_e, bd2_e, bd3_e, jn1_e, jn2_e, bI_0]
  rw [e]
  refine cue_l h hI hR (by omega) 80 0 r _ _ _ (g3_trial n) m1 (by omega) hL1 (fun z hz => ?_)
  rw [i32_le, i32_le, show (-79993 : Int32).toInt = -79993 by decide, show (-100000 : Int32).toInt = -100000 by decide]
  omega
theorem doze_l {n : NS} {m : MS} {N M K : Nat} (h : Rel n m) (hI : HI N M (g4_d m)) (hR : RH N (g4_d m) (g3_house n)) (hK : K < 1000) : ∀ (j i r : Nat) (W X X' : Int32) (t : HS) (ml : MS), i + j = N → Lm m ml (g4_d m) → (∀ z : Int32, z.toInt ≤ 79992 → (X ≤ z ↔ X' ≤ z)) → Op2 (lp_X3_doze_25 (nI K) (r + 1 + j) (nI i) W X (s3_trial n t)) (lp_X4_doze_32 (nI K) (r + 1 + j) (nI i) X' W ml) := by
  have hN := hI.2.1
  have hpe : ∀ t, g0_people (g3_house (s3_trial n t)) = nI N := fun t => hR.1.trans hI.1
  intro j
  induction j with
  | zero =>
    intro i r W X X' t ml hi hL hc
    rw [Nat.add_zero, lp_X3_doze_25, lp_X4_doze_32, hpe, gd0, cl0, Lm_d hL, hI.1, if_pos (nI_le (by omega) (by omega)), if_pos (nI_le (by omega) (by omega))]
    by_cases c : 0 ≤ W
    · rw [if_pos c, if_pos c]
      exact ⟨_, _, _, rfl, rfl, Rel_t (Lm_rel h hL) _⟩
    · rw [if_neg c, if_neg c]
      exact op_f3 (Rel_t (Lm_rel h hL) _)
  | succ j ih =>
    intro i r W X X' t ml hi hL hc
    have h8 : i < 8 := by omega
    obtain ⟨t1, e1, hT⟩ := trial_t hI hR t
    obtain ⟨hI2, hT2⟩ := RHI_k hI hT (show i < N by omega) (v := 3) ⟨3, by omega, rfl⟩
    obtain ⟨t3, e3, hT3⟩ := allNotesOn_e hK hI2 hT2
    obtain ⟨m2, e4, hL2⟩ := houseBehind_e hK (Lm_upd hL (k := 35 + 4 * i) (by omega) 3) hI2
    have e3' : f_X0_allNotesOn (g3_trial (s3_trial (s3_trial n t1) (s0_kinds (g3_trial (s3_trial n t1)) (upd (g0_kinds (g3_trial (s3_trial n t1))) i 3)))) (nI K) = some (hsN (itD N K M (upd (g4_d m) (35 + 4 * i) 3)) N, t3) := e3
    rw [show r + 1 + (j + 1) = (r + 1 + j) + 1 by omega, lp_X3_doze_25, lp_X4_doze_32, hpe, gd0, cl0, Lm_d hL, hI.1, if_neg (nle (by omega) (by omega) (by omega)), if_neg (nle (by omega) (by omega) (by omega))]
    simp only [e1, gd_nI h8 (show (8 : Nat) < 2 ^ 31 by omega), nI_clamp (show i < 2 ^ 31 by omega), e3', sets0 h8, Lm_d hL, e4, if_true, if_false, reduceCtorEq, bd1_e, bd2_e, bd3_e, jn1_e, jn2_e, bI_0, nI_1]
    have q := hc (hsN (itD N K M (upd (g4_d m) (35 + 4 * i) 3)) N) (hsN_r (it_hi K M _ hI2)).2
    by_cases c2 : X ≤ hsN (itD N K M (upd (g4_d m) (35 + 4 * i) 3)) N
    · simp only [c2, q.mp c2, if_true, if_false, reduceCtorEq, bd1_e, bd2_e, bd3_e, jn1_e, jn2_e, bI_0]
      exact ih (i + 1) r W X X' t3 m2 (by omega) hL2 hc
    · have c3 : ¬ X' ≤ hsN (itD N K M (upd (g4_d m) (35 + 4 * i) 3)) N := fun z => c2 (q.mpr z)
      simp only [c2, c3, if_true, if_false, reduceCtorEq, bd1_e, bd2_e, bd3_e, jn1_e, jn2_e, bI_0]
      exact ih (i + 1) r (nI i) _ _ t3 m2 (by omega) hL2 (fun _ _ => Iff.rfl)
theorem op_doze {n : NS} {m : MS} (h : Rel n m) (p1 : Int32) : Op2 (f_X3_doze n p1) (f_X4_doze m p1) := by
  obtain ⟨N, M, hI, hR⟩ := h.1
  have hN := hI.2.1
  unfold f_X3_doze f_X4_doze
  simp only [isIn_e, isShort_e, bd1_e, bI_0]
  cases c2 : rng p1 1 100
  · simp only [if_true, if_false, reduceCtorEq, bd1_e, bd2_e, bd3_e, jn1_e, jn2_e, bI_0]; exact op_f0 h
  obtain ⟨K, hK, hK1, rfl⟩ := rng_nat1 (n := 100) (by decide) (by decide) c2
  obtain ⟨m1, em1, hL1⟩ := Lm_start m
  obtain ⟨r, e⟩ := FU_1 N (by omega)
  simp only [em1, if_true, if_false, reduceCtorEq, bd1_e, bd2_e, bd3_e, jn1_e, jn2_e, bI_0]
  rw [e]
  refine doze_l h hI hR (by omega) N 0 r _ _ _ (g3_trial n) m1 (by omega) hL1 (fun z hz => ?_)
  rw [i32_le, i32_le, show (79993 : Int32).toInt = 79993 by decide, show (100000 : Int32).toInt = 100000 by decide]
  omega
