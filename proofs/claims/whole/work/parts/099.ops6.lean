/-! PURE 8: tense, best, the image, the counts, the tape -/
def tnR (v : Int32) : Nat → Nat → FI → FI
  | 0, _, d => d
  | k + 1, i, d => tnR v k (i + 1) (upd d (19 + i) v)
theorem tenseAll_l {N M : Nat} (v : Int32) : ∀ (j i r : Nat) (d : FI) (h : HS), i + j = 16 → HI N M d → RH N d h → ∃ h', lp_X0_tenseAll_2 v (r + 1 + j) (nI i) h = some h' ∧ HI N M (tnR v j i d) ∧ RH N (tnR v j i d) h' := by
  intro j
  induction j with
  | zero =>
    intro i r d h hi hI hR
    exact ⟨h, by rw [Nat.add_zero, lp_X0_tenseAll_2, show i = 16 by omega, if_pos (show (16 : Int32) ≤ nI 16 by decide)], hI, hR⟩
  | succ j ih =>
    intro i r d h hi hI hR
    have h16 : i < 16 := by omega
    obtain ⟨a, b⟩ := RHI_ten hI hR h16 v
    rw [show r + 1 + (j + 1) = (r + 1 + j) + 1 by omega, lp_X0_tenseAll_2, if_neg (show ¬ (16 : Int32) ≤ nI i from nle (a := i) (b := 16) (by omega) (by omega) (by omega)), gd_nI h16 (by omega), nI_clamp (by omega), jn1_e, nI_1]
    exact ih (i + 1) r _ _ (by omega) a b
theorem tense48_l {m : MS} (v : Int32) (K : Int32 → MS → Option (Int32 × MS)) : ∀ (j i r : Nat) (d : FI) (ml : MS), i + j = 16 → Lm m ml d → ∃ m', lp_X4_tense_48 v K (r + 1 + j) (nI i) ml = K 16 m' ∧ Lm m m' (tnR v j i d) := by
  intro j
  induction j with
  | zero =>
    intro i r d ml hi hL
    exact ⟨ml, by rw [Nat.add_zero, lp_X4_tense_48, show i = 16 by omega, if_pos (show (16 : Int32) ≤ nI 16 by decide)]; rfl, hL⟩
  | succ j ih =>
    intro i r d ml hi hL
    have h16 : i < 16 := by omega
    rw [show r + 1 + (j + 1) = (r + 1 + j) + 1 by omega, lp_X4_tense_48, if_neg (show ¬ (16 : Int32) ≤ nI i from nle (a := i) (b := 16) (by omega) (by omega) (by omega)), gdt h16, clt h16, Lm_d hL, jn1_e, nI_1]
    exact ih (i + 1) r _ _ (by omega) (Lm_upd hL (by omega) v)
theorem tense_l {n : NS} {m : MS} {N M K : Nat} (h : Rel n m) (hI : HI N M (g4_d m)) (hR : RH N (g4_d m) (g3_house n)) (hK : K < 1000) (p2 : Int32) : ∀ (s r : Nat) (t : HS) (ml : MS), s < 1000 → Lm m ml (g4_d m) → Op2 (lp_X3_tense_33 (nI K) p2 (r + 1 + s) (nI s + (-1)) (s3_trial n t)) (lp_X4_tense_41 (nI K) p2 (r + 1 + s) (nI s + (-1)) ml) := by
  intro s
  induction s with
  | zero =>
    intro r t ml hs hL
    rw [Nat.add_zero, lp_X3_tense_33, lp_X4_tense_41, if_pos (show nI 0 + (-1) < 0 by decide), if_pos (show nI 0 + (-1) < 0 by decide)]
    exact op_f3 (Rel_t (Lm_rel h hL) _)
  | succ s ih =>
    intro r t ml hs hL
    obtain ⟨t1, e1, hT⟩ := trial_t hI hR t
    obtain ⟨q, eF⟩ := FU_1 16 (by omega)
    obtain ⟨t2, e2, hI2, hT2⟩ := tenseAll_l (nI s) 16 0 q (g4_d m) t1 (by omega) hI hT
    obtain ⟨t3, e3, hT3⟩ := allNotesOn_e hK hI2 hT2
    rw [show r + 1 + (s + 1) = (r + 1 + s) + 1 by omega, pk_m1, lp_X3_tense_33, lp_X4_tense_41, if_neg (nI_pos (by omega)), if_neg (nI_pos (by omega))]
    obtain ⟨m2, e4, hL2⟩ := tense48_l (nI s) (fun (v4_21 : Int32) (m0_21 : MS) => bd2 (f_X4_houseBehind m0_21 (nI K)) (fun r23 m24 => if r23 < p2 then lp_X4_tense_41 (nI K) p2 (r + 1 + s) (nI s + (-1 : Int32)) m24 else some (nI s, m24))) 16 0 q (g4_d m) ml (by omega) hL
    obtain ⟨m3, e5, hL3⟩ := houseBehind_e hK hL2 hI2
    have e2' : f_X0_tenseAll (g3_trial (s3_trial n t1)) (nI s) = some t2 := by
      unfold f_X0_tenseAll
      rw [eF]
      exact e2
    have e3' : f_X0_allNotesOn (g3_trial (s3_trial (s3_trial n t1) t2)) (nI K) = some (hsN (itD N K M (tnR (nI s) 16 0 (g4_d m))) N, t3) := e3
    have e4' := e4
    rw [← eF, show nI 0 = (0 : Int32) from rfl] at e4'
    rw [e4']
    simp only [e1, e2', e3', e5, if_true, if_false, reduceCtorEq, bd1_e, bd2_e, bd3_e, jn1_e, jn2_e, bI_0]
    by_cases c : hsN (itD N K M (tnR (nI s) 16 0 (g4_d m))) N < p2
    · rw [if_pos c, if_pos c]
      exact ih r t3 m3 (by omega) hL3
    · rw [if_neg c, if_neg c]
      exact ⟨_, _, _, rfl, rfl, Rel_t (Lm_rel h hL3) _⟩
theorem tense_0 {n : NS} {m : MS} {N M K : Nat} (h : Rel n m) (hI : HI N M (g4_d m)) (hR : RH N (g4_d m) (g3_house n)) (hK : K < 1000) (p2 : Int32) (t : HS) (ml : MS) (hL : Lm m ml (g4_d m)) : Op2 (lp_X3_tense_33 (nI K) p2 FU 20 (s3_trial n t)) (lp_X4_tense_41 (nI K) p2 FU 20 ml) := by
  obtain ⟨r, e⟩ := FU_1 21 (by omega)
  rw [e, show (20 : Int32) = nI 20 from rfl, ← pk_m1 20]
  exact tense_l h hI hR hK p2 21 r t ml (by omega) hL
theorem op_tense {n : NS} {m : MS} (h : Rel n m) (p1 p2 : Int32) : Op2 (f_X3_tense n p1 p2) (f_X4_tense m p1 p2) := by
  obtain ⟨N, M, hI, hR⟩ := h.1
  unfold f_X3_tense f_X4_tense
  obtain ⟨F, hF⟩ : ∃ F, F = FU := ⟨_, rfl⟩
  rw [← hF]
  simp only [isIn_e, isShort_e, in_note, bd1_e, bI_0]
  cases c2 : rng p1 1 100
  · simp only [if_true, if_false, reduceCtorEq, bd1_e, bd2_e, bd3_e, jn1_e, jn2_e, bI_0]; exact op_f0 h
  cases c3 : rng p2 (-9999) 9999
  · simp only [if_true, if_false, reduceCtorEq, bd1_e, bd2_e, bd3_e, jn1_e, jn2_e, bI_0]; exact op_f0 h
  obtain ⟨K, hK, hK1, rfl⟩ := rng_nat1 (n := 100) (by decide) (by decide) c2
  obtain ⟨m1, em1, hL1⟩ := Lm_start m
  simp only [em1, if_true, if_false, reduceCtorEq, bd1_e, bd2_e, bd3_e, jn1_e, jn2_e, bI_0]
  have g := tense_0 h hI hR (show K < 1000 by omega) p2 (g3_trial n) m1 hL1
  rw [← hF] at g
  exact g
theorem best_l {n : NS} {m m7 : MS} {D : FI} {t : HS} {N M : Nat} (h : Rel n m) (hI : HI N M D) (hT : RH N D t) (hL : Lm m m7 D) : ∀ (j i r : Nat) (W X : Int32), i + j = N → ((W = -1 ∧ X = -10000) ∨ ∃ w, w < N ∧ W = nI w ∧ X = D (35 + 4 * w + 2)) → Op2 (lp_X3_best_39 (s3_trial n t) (r + 1 + j) (nI i) W X) (lp_X4_best_33 m7 (r + 1 + j) (nI i) W) := by
  have hN := hI.2.1
  have hp : g0_people (g3_trial (s3_trial n t)) = nI N := hT.1.trans hI.1
  intro j
  induction j with
  | zero =>
    intro i r W X hi hW
    obtain ⟨m8, e8, hL8⟩ := Lm_back hL
    rw [Nat.add_zero, lp_X3_best_39, lp_X4_best_33, hp, gd0, cl0, Lm_d hL, hI.1, if_pos (nI_le (by omega) (by omega)), if_pos (nI_le (by omega) (by omega)), e8, bd1_e]
    by_cases c : 0 ≤ W
    · rw [if_pos c, if_pos c]
      exact ⟨_, _, _, rfl, rfl, Rel_t (Lm_rel h hL8) _⟩
    · rw [if_neg c, if_neg c]
      exact op_f3 (Rel_t (Lm_rel h hL8) _)
  | succ j ih =>
    intro i r W X hi hW
    have h8 : i < 8 := by omega
    have hi2 : i < N := by omega
    have hn : g0_notes (g3_trial (s3_trial n t)) i = D (35 + 4 * i + 2) := (hT.2.2.2.2.2 i hi2).2.2.1
    have e5 : ∀ w, w < 8 → f_X4_its m7 (nI w) 2 = some (D (35 + 4 * w + 2)) := by
      intro w hw
      have e := its_e (m := m7) (p := w) (w := 2) hw (by omega)
      rw [Lm_d hL] at e
      exact e
    rw [show r + 1 + (j + 1) = (r + 1 + j) + 1 by omega, lp_X3_best_39, lp_X4_best_33, hp, gd0, cl0, Lm_d hL, hI.1, if_neg (nle (by omega) (by omega) (by omega)), if_neg (nle (by omega) (by omega) (by omega)), gd_nI h8 (by omega), gd_nI h8 (by omega), nI_clamp (show i < 2 ^ 31 by omega), hn, nI_1]
    rcases hW with ⟨rfl, rfl⟩ | ⟨w, hw, rfl, rfl⟩
    · have c : ¬ D (35 + 4 * i + 2) ≤ (-10000 : Int32) := by
        have := (hI.2.2.2.2 i hi2).2.1
        rw [i32_le, show (-10000 : Int32).toInt = -10000 by decide]
        omega
      rw [if_neg c, if_pos (show (-1 : Int32) < 0 by decide), bd1_e, bd2_e]
      exact ih (i + 1) r _ _ (by omega) (Or.inr ⟨i, hi2, rfl, rfl⟩)
    · rw [if_neg (nI_pos (n := w) (by omega)), e5 i h8, e5 w (by omega), bd1_e, bd1_e]
      by_cases c : D (35 + 4 * i + 2) ≤ D (35 + 4 * w + 2)
      · rw [if_pos c, if_pos c, bd1_e, bd2_e]
        exact ih (i + 1) r _ _ (by omega) (Or.inr ⟨w, hw, rfl, rfl⟩)
      · rw [if_neg c, if_neg c, bd1_e, bd2_e]
        exact ih (i + 1) r _ _ (by omega) (Or.inr ⟨i, hi2, rfl, rfl⟩)
theorem op_best {n : NS} {m : MS} (h : Rel n m) (p1 : Int32) : Op2 (f_X3_best n p1) (f_X4_best m p1) := by
  obtain ⟨N, M, hI, hR⟩ := h.1
  have hN := hI.2.1
  unfold f_X3_best f_X4_best
  simp only [isIn_e, isAhead_e, bd1_e, bI_0]
  cases c2 : rng p1 0 400
  · simp only [if_true, if_false, reduceCtorEq, bd1_e, bd2_e, bd3_e, jn1_e, jn2_e, bI_0]; exact op_f0 h
  obtain ⟨K, hK, rfl⟩ := rng_nat (n := 400) (by decide) c2
  obtain ⟨t, et, hT⟩ := trial_e hI hR
  obtain ⟨t2, et2, hT2⟩ := goOn_e (K := K) (by omega) hI hT
  obtain ⟨m1, em1, hL1⟩ := Lm_start m
  obtain ⟨m2, em2, hL2⟩ := Lm_go (K := K) (by omega) hL1 hI
  have et2' : f_X0_goOn (g3_trial (s3_trial n t)) (nI K) = some t2 := et2
  obtain ⟨r, e⟩ := FU_1 N (by omega)
  simp only [et, et2', em1, em2, if_true, if_false, reduceCtorEq, bd1_e, bd2_e, bd3_e, jn1_e, jn2_e, bI_0]
  rw [e]
  exact best_l (n := s3_trial n t) (m := m) (Rel_t h _) (it_hi K M _ hI) hT2 hL2 N 0 r _ _ (by omega) (Or.inl ⟨rfl, rfl⟩)
theorem op_wipe {n : NS} {m : MS} (h : Rel n m) : Op2 (f_X3_wipe n) (f_X4_wipe m) := by
  obtain ⟨h1, h2, h3, h4, ⟨L, hL, e1, e2, h5⟩, h6⟩ := h
  refine ⟨nI L, s3_tape n (s2_length (g3_tape n) 0), s4_taped m 0, ?_, ?_, h1, h2, h3, h4, ⟨0, by omega, rfl, rfl, fun i hi => absurd hi (by omega)⟩, h6⟩
  · unfold f_X3_wipe; rw [jn1_e, e1]
  · unfold f_X4_wipe; rw [jn1_e, e2]
theorem op_tear {n : NS} {m : MS} (h : Rel n m) : Op2 (f_X3_tear n) (f_X4_tear m) := by
  obtain ⟨h1, h2, h3, h4, h5, h6⟩ := h
  refine ⟨if g4_isKept m = 0 then 0 else 1, s3_keeps n 0, s4_isKept m 0, ?_, ?_, h1, rfl, Or.inl rfl, h4, h5, h6⟩
  · unfold f_X3_tear; rw [jn1_e, jn1_e, h2]
  · unfold f_X4_tear; rw [jn1_e, jn1_e]
theorem HI_67 {d d' : FI} {N M : Nat} (e : ∀ j, j < 67 → d' j = d j) (h : HI N M d) : HI N M d' := by
  obtain ⟨a, b, c, f, g⟩ := h
  refine ⟨(e 0 (by omega)).trans a, b, (e 2 (by omega)).trans c, f, fun p hp => ?_⟩
  rw [e _ (show 35 + 4 * p < 67 by omega), e _ (show 35 + 4 * p + 2 < 67 by omega)]
  exact g p hp
theorem RH_67 {d d' : FI} {N : Nat} {h : HS} (hN : N ≤ 8) (e : ∀ j, j < 67 → d' j = d j) (x : RH N d h) : RH N d' h := by
  obtain ⟨a, b, c, f, g, k⟩ := x
  refine ⟨a.trans (e 0 (by omega)).symm, b.trans (e 1 (by omega)).symm, c.trans (e 2 (by omega)).symm, fun i hi => (f i hi).trans (e _ (by omega)).symm, fun i hi => (g i hi).trans (e _ (by omega)).symm, fun p hp => ?_⟩
  rw [e _ (show 35 + 4 * p < 67 by omega), e _ (show 35 + 4 * p + 1 < 67 by omega), e _ (show 35 + 4 * p + 2 < 67 by omega), e _ (show 35 + 4 * p + 3 < 67 by omega)]
  exact k p hp
theorem op_image {n : NS} {m : MS} (h : Rel n m) : Op2 (f_X3_image n) (f_X4_image m) := by
  obtain ⟨⟨N, M, hI, hR⟩, h2, h3, h4, h5, h6⟩ := h
  obtain ⟨t, et, hT⟩ := become_kh_e (k0 := g3_kept n) (t0 := g3_trial n) hI hR
  have e : ∀ j, j < 67 → rst (g4_d m) (g4_kept m) j = g4_d m j := fun j hj => if_pos hj
  refine ⟨1, s3_keeps (s3_kept n t) 1, s4_isKept (s4_kept m (rst (g4_d m) (g4_kept m))) 1, ?_, ?_, ⟨N, M, hI, hR⟩, rfl, Or.inr ⟨rfl, N, M, HI_67 e hI, RH_67 hI.2.1 e hT⟩, h4, h5, h6⟩
  · unfold f_X3_image; rw [et, bd1_e, jn1_e, jn1_e]
  · unfold f_X4_image; rw [cp_d_kept, bd1_e, jn1_e]
theorem op_undo {n : NS} {m : MS} (h : Rel n m) : Op2 (f_X3_undo n) (f_X4_undo m) := by
  have h0 := h
  obtain ⟨h1, h2, h3, h4, h5, h6⟩ := h
  unfold f_X3_undo f_X4_undo
  rw [h2]
  rcases h3 with c | ⟨c, N, M, hI, hR⟩
  · rw [if_pos c, if_pos c]
    exact op_f3 h0
  · have c0 : ¬ g4_isKept m = 0 := by rw [c]; decide
    obtain ⟨t, et, hT⟩ := become_hk_e (h0 := g3_house n) (t0 := g3_trial n) hI hR
    have e : ∀ j, j < 67 → rst (g4_kept m) (g4_d m) j = g4_kept m j := fun j hj => if_pos hj
    have hT2 := RH_67 hI.2.1 e hT
    rw [if_neg c0, if_neg c0, et, cp_kept_d, bd1_e, bd1_e, jn1_e, gd0, cl0]
    exact ⟨_, s3_house n t, s4_d m (rst (g4_kept m) (g4_d m)), rfl, congrArg (fun x => some (x, s4_d m (rst (g4_kept m) (g4_d m)))) hT2.1.symm, ⟨N, M, HI_67 e hI, hT2⟩, h2, Or.inr ⟨c, N, M, hI, hR⟩, h4, h5, h6⟩
theorem count_l {m : MS} (p1 : Int32) : ∀ (j P r : Nat), P + j = 16 → lp_X4_count_4 m p1 (r + j) (nI P) (sm (fun i => g4_d m (19 + i)) P) = lp_X4_count_4 m p1 r (nI 16) (sm (fun i => g4_d m (19 + i)) 16) := by
  intro j
  induction j with
  | zero => intro P r hP; rw [show P = 16 by omega]; rfl
  | succ j ih =>
    intro P r hP
    rw [show r + (j + 1) = (r + j) + 1 by omega, lp_X4_count_4, if_neg (show ¬ (16 : Int32) ≤ nI P from nle (a := P) (b := 16) (by omega) (by omega) (by omega)), gdt (by omega), clt (by omega), nI_1]
    exact ih (P + 1) r (by omega)
theorem op_count {n : NS} {m : MS} (h : Rel n m) (p1 : Int32) : Op2 (f_X3_count n p1) (f_X4_count m p1) := by
  obtain ⟨N, M, hI, hR⟩ := h.1
  obtain ⟨L, hL, e1, e2, h5⟩ := h.2.2.2.2.1
  obtain ⟨r, e⟩ := FU_1 16 (by omega)
  have hc : f_X4_count m p1 = lp_X4_count_4 m p1 (r + 1) (nI 16) (sm (fun i => g4_d m (19 + i)) 16) := by
    unfold f_X4_count
    rw [e]
    exact count_l p1 16 0 (r + 1) (by omega)
  have ht : f_X0_allTense (g3_house n) = some (sm (fun i => g4_d m (19 + i)) 16) := by
    unfold f_X0_allTense
    rw [show (16 : Int32) = nI 16 from rfl, sum_e (by omega) (by omega), bd1_e]
    exact congrArg some (sm_c (fun p hp => hR.2.2.2.2.1 p hp))
  unfold f_X3_count
  rw [hc, lp_X4_count_4, if_pos (show (16 : Int32) ≤ nI 16 by decide), gd0, cl0, ht, allFresh_e hI hR, sumF_e hI, bd1_e, bd1_e, bd1_e]
  by_cases c0 : p1 = 0
  · rw [if_pos c0, if_pos c0]; exact op_r (n' := n) (m' := m) hR.1 h
  rw [if_neg c0, if_neg c0]
  by_cases c1 : p1 = 1
  · rw [if_pos c1, if_pos c1]; exact op_r (n' := n) (m' := m) (e1.trans e2.symm) h
  rw [if_neg c1, if_neg c1]
  by_cases c2 : p1 = 2
  · rw [if_pos c2, if_pos c2]; exact op_r (n' := n) (m' := m) rfl h
  rw [if_neg c2, if_neg c2]
  by_cases c3 : p1 = 3
  · rw [if_pos c3, if_pos c3]; exact op_r (n' := n) (m' := m) rfl h
  rw [if_neg c3, if_neg c3]
  exact op_f0 h
theorem status_l {n : NS} {m : MS} (h : Rel n m) (p1 : Int32) (hp : p1 < 0) : ∀ (j P r : Nat) (v : Int32), P + j = 7 → Op2 (lp_X3_status_32 n (r + 1 + j) (nI P) v) (lp_X4_status_24 m p1 (r + 1 + j) (nI P) v) := by
  have hp2 : ¬ 0 ≤ p1 := by
    rw [i32_lt] at hp
    rw [i32_le]
    omega
  intro j
  induction j with
  | zero =>
    intro P r v hP
    rw [Nat.add_zero, lp_X3_status_32, lp_X4_status_24, show P = 7 by omega, if_pos (show (7 : Int32) ≤ nI 7 by decide), if_pos (show (7 : Int32) ≤ nI 7 by decide), if_neg hp2]
    exact op_r (n' := n) (m' := m) rfl h
  | succ j ih =>
    intro P r v hP
    rw [show r + 1 + (j + 1) = (r + 1 + j) + 1 by omega, lp_X3_status_32, lp_X4_status_24, if_neg (show ¬ (7 : Int32) ≤ nI P from nle (a := P) (b := 7) (by omega) (by omega) (by omega)), if_neg (show ¬ (7 : Int32) ≤ nI P from nle (a := P) (b := 7) (by omega) (by omega) (by omega)), gd_nI (by omega) (by omega), gd_nI (by omega) (by omega), nI_clamp (by omega), nI_1, h.2.2.2.1 P (by omega)]
    exact ih (P + 1) r _ (by omega)
theorem status_m {m : MS} {k : Nat} (hk : k < 7) : ∀ (j P r : Nat) (v : Int32), P + j = 7 → lp_X4_status_24 m (nI k) (r + 1 + j) (nI P) v = some (g4_found m k, m) := by
  intro j
  induction j with
  | zero =>
    intro P r v hP
    rw [Nat.add_zero, lp_X4_status_24, show P = 7 by omega, if_pos (show (7 : Int32) ≤ nI 7 by decide), if_pos (nI_pos' (by omega)), gd_nI hk (by omega), nI_clamp (by omega)]
  | succ j ih =>
    intro P r v hP
    rw [show r + 1 + (j + 1) = (r + 1 + j) + 1 by omega, lp_X4_status_24, if_neg (show ¬ (7 : Int32) ≤ nI P from nle (a := P) (b := 7) (by omega) (by omega) (by omega)), gd_nI (by omega) (by omega), nI_1]
    exact ih (P + 1) r _ (by omega)
theorem op_status {n : NS} {m : MS} (h : Rel n m) (p1 : Int32) : Op2 (f_X3_status n p1) (f_X4_status m p1) := by
  unfold f_X3_status f_X4_status
  simp only [isIn_e, in_m1_6, bd1_e, bI_0]
  cases c2 : rng p1 (-1) 6
  · simp only [if_true, if_false, reduceCtorEq, bd1_e, bd2_e, bd3_e, jn1_e, jn2_e, bI_0]; exact op_f0 h
  obtain ⟨r, e⟩ := FU_1 7 (by omega)
  simp only [if_true, if_false, reduceCtorEq, bd1_e, bd2_e, bd3_e, jn1_e, jn2_e, bI_0]
  rw [e]
  by_cases c : p1 < 0
  · rw [if_pos c]
    exact status_l h p1 c 7 0 r 0 (by omega)
  · rw [if_neg c]
    obtain ⟨k, hk, rfl⟩ := nI_of2 (x := p1) (M := 6) (n := 6) (by decide) c (rng_t.mp c2).2
    rw [gd_nI (show k < 7 by omega) (by omega), nI_clamp (show k < 2 ^ 31 by omega)]
    exact ⟨_, n, m, rfl, (status_m (m := m) (show k < 7 by omega) 7 0 r 0 (by omega)).trans (congrArg (fun x => some (x, m)) (h.2.2.2.1 k (by omega)).symm), h⟩
theorem feed_l (p1 : Int32) : ∀ (s r L : Nat) (n : NS) (m : MS), L + s ≤ 120 → Rel n m → g2_length (g3_tape n) = nI L → g4_taped m = nI L → Op2 (lp_X3_feed_41 p1 (r + 1 + s) (nI s + (-1)) n) (lp_X4_feed_39 p1 (r + 1 + s) (nI s + (-1)) m) := by
  intro s
  induction s with
  | zero =>
    intro r L n m hs h e1 e2
    rw [Nat.add_zero, lp_X3_feed_41, lp_X4_feed_39, if_pos (show nI 0 + (-1) < 0 by decide), if_pos (show nI 0 + (-1) < 0 by decide)]
    exact op_r (n' := n) (m' := m) (e1.trans e2.symm) h
  | succ s ih =>
    intro r L n m hs h e1 e2
    rw [show r + 1 + (s + 1) = (r + 1 + s) + 1 by omega, pk_m1, lp_X3_feed_41, lp_X4_feed_39, if_neg (nI_pos (by omega)), if_neg (nI_pos (by omega)), e2, gd_nI (show L < 120 by omega) (by omega), nI_clamp (show L < 2 ^ 31 by omega), jn1_e]
    generalize (p1 >>> (((8 : Int32) * nI s) &&& 31)).toInt8.toInt32 = b
    have ea : f_X2_add (g3_tape n) b = some (s2_length (s2_bytes (g3_tape n) (upd (g2_bytes (g3_tape n)) L (vp_nar .byte b))) (nI (L + 1))) := by
      unfold f_X2_add
      rw [e1, if_neg (show ¬ (120 : Int32) ≤ nI L from nle (a := L) (b := 120) (by omega) (by omega) (by omega)), gd_nI (show L < 120 by omega) (by omega), nI_clamp (show L < 2 ^ 31 by omega), jn1_e, jn1_e]
      show some (s2_length _ (g2_length (g3_tape n) + 1)) = _
      rw [e1, nI_1]
    rw [ea, bd1_e, jn1_e, jn1_e]
    show Op2 _ (lp_X4_feed_39 p1 (r + 1 + s) (nI s + -1) (s4_taped (s4_tape m (upd (g4_tape m) L (vp_nar .byte b))) (g4_taped m + 1)))
    rw [e2, nI_1]
    refine ih r (L + 1) _ _ (by omega) ?_ rfl rfl
    obtain ⟨h1, h2, h3, h4, ⟨L2, hL2, f1, f2, h5⟩, h6⟩ := h
    refine ⟨h1, h2, h3, h4, ⟨L + 1, by omega, rfl, rfl, fun i hi => ?_⟩, h6⟩
    show upd (g2_bytes (g3_tape n)) L (vp_nar .byte b) i = upd (g4_tape m) L (vp_nar .byte b) i
    have hLL : L2 = L := by
      exact (nI_eq (by omega) (by omega)).mp (f2.symm.trans e2)
    rw [upd_e, upd_e]
    by_cases c : i = L
    · rw [if_pos c, if_pos c]
    · rw [if_neg c, if_neg c]
      exact h5 i (by omega)
theorem op_feed {n : NS} {m : MS} (h : Rel n m) (p1 p2 : Int32) : Op2 (f_X3_feed n p1 p2) (f_X4_feed m p1 p2) := by
  obtain ⟨L, hL, e1, e2, h5⟩ := h.2.2.2.2.1
  unfold f_X3_feed f_X4_feed
  simp only [isIn_e, in_1_4, bd1_e, bI_0]
  cases c2 : rng p2 1 4
  · simp only [if_true, if_false, reduceCtorEq, bd1_e, bd2_e, bd3_e, jn1_e, jn2_e, bI_0]; exact op_f0 h
  obtain ⟨K, hK, hK1, rfl⟩ := rng_nat1 (n := 4) (by decide) (by decide) c2
  have e3 : (1 : Int32).toInt = 1 := rfl
  obtain ⟨J, rfl⟩ : ∃ J, K = J + 1 := ⟨K - 1, by omega⟩
  simp only [if_true, if_false, reduceCtorEq, bd1_e, bd2_e, bd3_e, jn1_e, jn2_e, bI_0, e1, e2, nI_add, nI_pred]
  by_cases c : L + (J + 1) ≤ 120
  · have c' : nI (L + (J + 1)) ≤ (120 : Int32) := nI_le (a := L + (J + 1)) (b := 120) c (by omega)
    rw [if_pos c', if_pos c']
    obtain ⟨r, e⟩ := FU_1 (J + 1) (by omega)
    rw [e, ← pk_m1]
    exact feed_l p1 (J + 1) r L n m c h e1 e2
  · have c' : ¬ nI (L + (J + 1)) ≤ (120 : Int32) := nle (a := 120) (b := L + (J + 1)) (by omega) (by omega) (by omega)
    rw [if_neg c', if_neg c']
    exact op_f1 h
