/-! PURE 6: seats; moments; what is best, loop beside loop -/
theorem mg_l {N K : Nat} (hK : K < 1000) : ∀ (j P r M : Nat) (m : MS), P + j = K → HI N M (g4_d m) → ∃ dg, lp_X4_momentsGo_2 (nI K) (r + j) (nI P) m = lp_X4_momentsGo_2 (nI K) r (nI K) (s4_d (s4_doing m dg) (itD N j M (g4_d m))) := by
  intro j
  induction j with
  | zero => intro P r M m hP hI; exact ⟨g4_doing m, by rw [show P = K by omega]; rfl⟩
  | succ j ih =>
    intro P r M m hP hI
    obtain ⟨dg, e1⟩ := momentGoes_e hI
    obtain ⟨dg2, e2⟩ := ih (P + 1) r (nxM M) (s4_d (s4_doing m dg) (stepD (g4_d m) N M)) (by omega) (HI_step hI)
    refine ⟨dg2, ?_⟩
    rw [show r + (j + 1) = (r + j) + 1 by omega, lp_X4_momentsGo_2, if_neg (nle (by omega) (by omega) (by omega)), e1, bd1_e, nI_1]
    exact e2
theorem momentsGo_e {N M K : Nat} {m : MS} (hK : K < 1000) (hI : HI N M (g4_d m)) : ∃ dg, f_X4_momentsGo m (nI K) = some (s4_d (s4_doing m dg) (itD N K M (g4_d m))) := by
  unfold f_X4_momentsGo
  obtain ⟨r, e⟩ := FU_s K (by omega)
  obtain ⟨dg, e1⟩ := mg_l hK K 0 (r + 1) M m (by omega) hI
  refine ⟨dg, ?_⟩
  rw [e]
  refine Eq.trans e1 ?_
  rw [lp_X4_momentsGo_2, if_pos (nI_le (Nat.le_refl K) (by omega))]
theorem Rel_dg {n : NS} {m : MS} (h : Rel n m) {d : FI} {x : HS} (dg : FI) (hx : RHI d x) : Rel (s3_house n x) (s4_d (s4_doing m dg) d) := ⟨hx, h.2.1, h.2.2.1, h.2.2.2.1, h.2.2.2.2.1, h.2.2.2.2.2⟩
theorem op_moments {n : NS} {m : MS} (h : Rel n m) (p1 : Int32) : Op2 (f_X3_moments n p1) (f_X4_moments m p1) := by
  obtain ⟨N, M, hI, hR⟩ := h.1
  unfold f_X3_moments f_X4_moments
  simp only [isIn_e, in_1_200, gd1, gd2, cl1, cl2, hR.2.1, hR.2.2.1, bd1_e, bI_0]
  cases c2 : rng p1 1 200
  · simp only [if_true, if_false, reduceCtorEq, bd1_e, bd2_e, bd3_e, jn1_e, jn2_e, bI_0]; exact op_f0 h
  · obtain ⟨K, hK, hK1, rfl⟩ := rng_nat1 (n := 200) (by decide) (by decide) c2
    obtain ⟨h1, e1, hR1⟩ := goOn_e (K := K) (by omega) hI hR
    obtain ⟨dg, e2⟩ := momentsGo_e (K := K) (by omega) hI
    by_cases c : g4_d m 1 + (g4_d m 2 + nI K) / 16 ≤ 9999
    · simp only [c, e1, e2, if_true, if_false, reduceCtorEq, bd1_e, bd2_e, bd3_e, jn1_e, jn2_e, bI_0]
      exact ⟨_, _, _, rfl, congrArg (fun x => some (x, s4_d (s4_doing m dg) (itD N K M (g4_d m)))) hR1.2.2.1.symm, Rel_dg h dg ⟨N, itM K M, it_hi K M _ hI, hR1⟩⟩
    · simp only [c, if_true, if_false, reduceCtorEq, bd1_e, bd2_e, bd3_e, jn1_e, jn2_e, bI_0]; exact op_f4 h
/-- two change seats -/
def swK (k a b : Nat) (d : FI) : FI := fun j => if 35 ≤ j ∧ (j - 35) % 4 < k then (if (j - 35) / 4 = a then d (35 + 4 * b + (j - 35) % 4) else if (j - 35) / 4 = b then d (35 + 4 * a + (j - 35) % 4) else d j) else d j
theorem swK_0 (a b : Nat) (d : FI) : swK 0 a b d = d := funext fun j => if_neg (by omega)
theorem swK_at {k a b p w : Nat} (d : FI) (hw : w < 4) : swK k a b d (35 + 4 * p + w) = if w < k then (if p = a then d (35 + 4 * b + w) else if p = b then d (35 + 4 * a + w) else d (35 + 4 * p + w)) else d (35 + 4 * p + w) := by
  unfold swK
  obtain ⟨e1, e2⟩ := dv p w hw
  rw [e1, e2]
  by_cases c : w < k
  · rw [if_pos ⟨by omega, c⟩, if_pos c]
  · rw [if_neg (by omega), if_neg c]
theorem swK_lo {k a b j : Nat} (d : FI) (h : j < 35) : swK k a b d j = d j := if_neg (by omega)
theorem swK_s {k a b : Nat} (hk : k < 4) (hab : a ≠ b) (d : FI) : upd (upd (swK k a b d) (35 + 4 * a + k) (swK k a b d (35 + 4 * b + k))) (35 + 4 * b + k) (swK k a b d (35 + 4 * a + k)) = swK (k + 1) a b d := by
  have ea : swK k a b d (35 + 4 * a + k) = d (35 + 4 * a + k) := by rw [swK_at d hk, if_neg (by omega)]
  have eb : swK k a b d (35 + 4 * b + k) = d (35 + 4 * b + k) := by rw [swK_at d hk, if_neg (by omega)]
  funext j
  rw [ea, eb, upd_e, upd_e]
  by_cases c0 : j < 35
  · rw [if_neg (by omega), if_neg (by omega), swK_lo d c0, swK_lo d c0]
  · obtain ⟨p, w, hw, rfl⟩ : ∃ p w, w < 4 ∧ j = 35 + 4 * p + w := ⟨(j - 35) / 4, (j - 35) % 4, by omega, by omega⟩
    rw [swK_at d hw, swK_at d hw]
    by_cases c1 : w = k
    · subst c1
      by_cases c2 : p = b
      · subst c2
        rw [if_pos rfl, if_pos (by omega), if_neg (by omega), if_pos rfl]
      · rw [if_neg (by omega)]
        by_cases c3 : p = a
        · subst c3
          rw [if_pos rfl, if_pos (by omega), if_pos rfl]
        · rw [if_neg (by omega), if_neg (by omega), if_pos (by omega), if_neg c3, if_neg c2]
    · rw [if_neg (by omega), if_neg (by omega)]
      by_cases c4 : w < k
      · rw [if_pos c4, if_pos (show w < k + 1 by omega)]
      · rw [if_neg c4, if_neg (show ¬ w < k + 1 by omega)]
theorem sw_l {a b : Nat} (ha : a < 8) (hb : b < 8) (hab : a ≠ b) : ∀ (j k r : Nat) (m : MS) (d : FI), k + j = 4 → g4_d m = swK k a b d → lp_X4_swaps_2 (nI a) (nI b) (r + j) (nI k) m = lp_X4_swaps_2 (nI a) (nI b) r (nI 4) (s4_d m (swK 4 a b d)) := by
  intro j
  induction j with
  | zero =>
    intro k r m d hk hd
    rw [show k = 4 by omega] at hd ⊢
    rw [← hd]
    rfl
  | succ j ih =>
    intro k r m d hk hd
    rw [show r + (j + 1) = (r + j) + 1 by omega, lp_X4_swaps_2, if_neg (show ¬ (4 : Int32) ≤ nI k from nle (a := k) (b := 4) (by omega) (by omega) (by omega)), its_e ha (by omega), bd1_e, its_e hb (by omega), bd1_e, sets_e ha (by omega), bd1_e, sets_e hb (by omega), bd1_e, nI_1]
    refine (ih (k + 1) r _ d (by omega) ?_).trans ?_
    · rw [g4d_s, g4d_s, hd]
      exact swK_s (by omega) hab d
    · rfl
theorem swaps_e {a b : Nat} (ha : a < 8) (hb : b < 8) (hab : a ≠ b) (m : MS) : f_X4_swaps m (nI a) (nI b) = some (s4_d m (swK 4 a b (g4_d m))) := by
  unfold f_X4_swaps
  obtain ⟨r, e⟩ := FU_s 4 (by omega)
  rw [e]
  refine (sw_l ha hb hab 4 0 (r + 1) m (g4_d m) (by omega) (swK_0 _ _ _).symm).trans ?_
  rw [lp_X4_swaps_2, if_pos (show (4 : Int32) ≤ nI 4 by decide)]
theorem exch_e {f : FI} {a b : Nat} (ha : a < 8) (hb : b < 8) : f_X0_exchange 8 f (nI a) (nI b) = some (upd (upd f a (f b)) b (f a)) := by
  unfold f_X0_exchange
  simp only [gd_nI ha (show (8 : Nat) < 2 ^ 31 by omega), gd_nI hb (show (8 : Nat) < 2 ^ 31 by omega), nI_clamp (show a < 2 ^ 31 by omega), nI_clamp (show b < 2 ^ 31 by omega), jn1_e]
theorem changeSeats_e {a b N M : Nat} {d : FI} {h : HS} (hI : HI N M d) (hR : RH N d h) (ha : a < N) (hb : b < N) (hab : a ≠ b) : ∃ h', f_X0_changeSeats h (nI a) (nI b) = some h' ∧ HI N M (swK 4 a b d) ∧ RH N (swK 4 a b d) h' := by
  have hN := hI.2.1
  unfold f_X0_changeSeats
  simp only [exch_e (show a < 8 by omega) (show b < 8 by omega), bd1_e, jn1_e, gs0_night_night, gs0_night_moment, gs0_night_people, gs0_night_cues, gs0_night_tenses, gs0_night_kinds, gs0_night_freshes, gs0_night_notes, gs0_night_dids, gs0_night_deeds, gs0_moment_night, gs0_moment_moment, gs0_moment_people, gs0_moment_cues, gs0_moment_tenses, gs0_moment_kinds, gs0_moment_freshes, gs0_moment_notes, gs0_moment_dids, gs0_moment_deeds, gs0_people_night, gs0_people_moment, gs0_people_people, gs0_people_cues, gs0_people_tenses, gs0_people_kinds, gs0_people_freshes, gs0_people_notes, gs0_people_dids, gs0_people_deeds, gs0_cues_night, gs0_cues_moment, gs0_cues_people, gs0_cues_cues, gs0_cues_tenses, gs0_cues_kinds, gs0_cues_freshes, gs0_cues_notes, gs0_cues_dids, gs0_cues_deeds, gs0_tenses_night, gs0_tenses_moment, gs0_tenses_people, gs0_tenses_cues, gs0_tenses_tenses, gs0_tenses_kinds, gs0_tenses_freshes, gs0_tenses_notes, gs0_tenses_dids, gs0_tenses_deeds, gs0_kinds_night, gs0_kinds_moment, gs0_kinds_people, gs0_kinds_cues, gs0_kinds_tenses, gs0_kinds_kinds, gs0_kinds_freshes, gs0_kinds_notes, gs0_kinds_dids, gs0_kinds_deeds, gs0_freshes_night, gs0_freshes_moment, gs0_freshes_people, gs0_freshes_cues, gs0_freshes_tenses, gs0_freshes_kinds, gs0_freshes_freshes, gs0_freshes_notes, gs0_freshes_dids, gs0_freshes_deeds, gs0_notes_night, gs0_notes_moment, gs0_notes_people, gs0_notes_cues, gs0_notes_tenses, gs0_notes_kinds, gs0_notes_freshes, gs0_notes_notes, gs0_notes_dids, gs0_notes_deeds, gs0_dids_night, gs0_dids_moment, gs0_dids_people, gs0_dids_cues, gs0_dids_tenses, gs0_dids_kinds, gs0_dids_freshes, gs0_dids_notes, gs0_dids_dids, gs0_dids_deeds, gs0_deeds_night, gs0_deeds_moment, gs0_deeds_people, gs0_deeds_cues, gs0_deeds_tenses, gs0_deeds_kinds, gs0_deeds_freshes, gs0_deeds_notes, gs0_deeds_dids, gs0_deeds_deeds]
  refine ⟨_, rfl, ?_, ?_⟩
  · obtain ⟨a0, a1, a2, a3, a4⟩ := hI
    refine ⟨(swK_lo d (by omega)).trans a0, a1, (swK_lo d (by omega)).trans a2, a3, fun p hp => ?_⟩
    have q0 := swK_at (k := 4) (a := a) (b := b) (p := p) (w := 0) d (by omega)
    have q2 := swK_at (k := 4) (a := a) (b := b) (p := p) (w := 2) d (by omega)
    rw [if_pos (by omega)] at q0 q2
    rw [show 35 + 4 * p = 35 + 4 * p + 0 from rfl, q0, q2]
    by_cases c1 : p = a
    · rw [if_pos c1, if_pos c1]; exact a4 b hb
    · by_cases c2 : p = b
      · rw [if_neg c1, if_neg c1, if_pos c2, if_pos c2]; exact a4 a ha
      · rw [if_neg c1, if_neg c1, if_neg c2, if_neg c2]; exact a4 p hp
  · obtain ⟨b0, b1, b2, b3, b4, b5⟩ := hR
    unfold RH
    simp only [gs0_night_night, gs0_night_moment, gs0_night_people, gs0_night_cues, gs0_night_tenses, gs0_night_kinds, gs0_night_freshes, gs0_night_notes, gs0_night_dids, gs0_night_deeds, gs0_moment_night, gs0_moment_moment, gs0_moment_people, gs0_moment_cues, gs0_moment_tenses, gs0_moment_kinds, gs0_moment_freshes, gs0_moment_notes, gs0_moment_dids, gs0_moment_deeds, gs0_people_night, gs0_people_moment, gs0_people_people, gs0_people_cues, gs0_people_tenses, gs0_people_kinds, gs0_people_freshes, gs0_people_notes, gs0_people_dids, gs0_people_deeds, gs0_cues_night, gs0_cues_moment, gs0_cues_people, gs0_cues_cues, gs0_cues_tenses, gs0_cues_kinds, gs0_cues_freshes, gs0_cues_notes, gs0_cues_dids, gs0_cues_deeds, gs0_tenses_night, gs0_tenses_moment, gs0_tenses_people, gs0_tenses_cues, gs0_tenses_tenses, gs0_tenses_kinds, gs0_tenses_freshes, gs0_tenses_notes, gs0_tenses_dids, gs0_tenses_deeds, gs0_kinds_night, gs0_kinds_moment, gs0_kinds_people, gs0_kinds_cues, gs0_kinds_tenses, gs0_kinds_kinds, gs0_kinds_freshes, gs0_kinds_notes, gs0_kinds_dids, gs0_kinds_deeds, gs0_freshes_night, gs0_freshes_moment, gs0_freshes_people, gs0_freshes_cues, gs0_freshes_tenses, gs0_freshes_kinds, gs0_freshes_freshes, gs0_freshes_notes, gs0_freshes_dids, gs0_freshes_deeds, gs0_notes_night, gs0_notes_moment, gs0_notes_people, gs0_notes_cues, gs0_notes_tenses, gs0_notes_kinds, gs0_notes_freshes, gs0_notes_notes, gs0_notes_dids, gs0_notes_deeds, gs0_dids_night, gs0_dids_moment, gs0_dids_people, gs0_dids_cues, gs0_dids_tenses, gs0_dids_kinds, gs0_dids_freshes, gs0_dids_notes, gs0_dids_dids, gs0_dids_deeds, gs0_deeds_night, gs0_deeds_moment, gs0_deeds_people, gs0_deeds_cues, gs0_deeds_tenses, gs0_deeds_kinds, gs0_deeds_freshes, gs0_deeds_notes, gs0_deeds_dids, gs0_deeds_deeds]
    refine ⟨b0.trans (swK_lo d (by omega)).symm, b1.trans (swK_lo d (by omega)).symm, b2.trans (swK_lo d (by omega)).symm, fun i hi => (b3 i hi).trans (swK_lo d (by omega)).symm, fun i hi => (b4 i hi).trans (swK_lo d (by omega)).symm, fun p hp => ?_⟩
    have q0 := swK_at (k := 4) (a := a) (b := b) (p := p) (w := 0) d (by omega)
    have q1 := swK_at (k := 4) (a := a) (b := b) (p := p) (w := 1) d (by omega)
    have q2 := swK_at (k := 4) (a := a) (b := b) (p := p) (w := 2) d (by omega)
    have q3 := swK_at (k := 4) (a := a) (b := b) (p := p) (w := 3) d (by omega)
    rw [if_pos (by omega)] at q0 q1 q2 q3
    rw [show 35 + 4 * p = 35 + 4 * p + 0 from rfl, q0, show 35 + 4 * p + 0 + 1 = 35 + 4 * p + 1 from rfl, q1, show 35 + 4 * p + 0 + 2 = 35 + 4 * p + 2 from rfl, q2, show 35 + 4 * p + 0 + 3 = 35 + 4 * p + 3 from rfl, q3]
    obtain ⟨x0, x1, x2, x3⟩ := b5 a ha
    obtain ⟨y0, y1, y2, y3⟩ := b5 b hb
    simp only [upd_e]
    by_cases c1 : p = a
    · have c3 : ¬ p = b := by omega
      simp only [if_pos c1, if_neg c3]
      exact ⟨y0, y1, y2, y3⟩
    · by_cases c2 : p = b
      · simp only [if_pos c2, if_neg c1]
        exact ⟨x0, x1, x2, x3⟩
      · simp only [if_neg c1, if_neg c2]
        exact b5 p hp
theorem op_swap {n : NS} {m : MS} (h : Rel n m) (p1 p2 : Int32) : Op2 (f_X3_swap n p1 p2) (f_X4_swap m p1 p2) := by
  obtain ⟨N, M, hI, hR⟩ := h.1
  have hN := hI.2.1
  unfold f_X3_swap f_X4_swap
  simp only [isThere_e (hR.1.trans hI.1), isPerson_e hI, bd1_e, bI_0]
  rcases pin_c hN p1 with c1 | ⟨a, ha, rfl, c1⟩
  · simp only [c1, if_true, if_false, reduceCtorEq, bd1_e, bd2_e, bd3_e, jn1_e, jn2_e, bI_0]; exact op_f0 h
  rcases pin_c hN p2 with c2 | ⟨b, hb, rfl, c2⟩
  · simp only [c1, c2, if_true, if_false, reduceCtorEq, bd1_e, bd2_e, bd3_e, jn1_e, jn2_e, bI_0]; exact op_f0 h
  have q : (nI a = nI b) ↔ a = b := nI_eq (by omega) (by omega)
  simp only [c1, c2, q, if_true, if_false, reduceCtorEq, bd1_e, bd2_e, bd3_e, jn1_e, jn2_e, bI_0]
  by_cases c3 : a = b
  · simp only [c3, if_true, if_false, reduceCtorEq, bd1_e, bd2_e, bd3_e, jn1_e, jn2_e, bI_0]; exact op_f0 h
  · obtain ⟨h', e1, hI', hR'⟩ := changeSeats_e hI hR ha hb c3
    simp only [c3, e1, swaps_e (show a < 8 by omega) (show b < 8 by omega) c3, if_true, if_false, reduceCtorEq, bd1_e, bd2_e, bd3_e, jn1_e, jn2_e, bI_0]
    exact ⟨_, _, _, rfl, rfl, Rel_house h ⟨N, M, hI', hR'⟩⟩
/-- the first moment in which one does a thing -/
theorem does_l {n : NS} {m : MS} {N p : Nat} {v : Int32} (h : Rel n m) (hp : p < N) : ∀ (j i r M : Nat) (t : HS) (ml : MS) (d : FI), i + j = 400 → HI N M d → RH N d t → Lm m ml d → Op2 (lp_X3_does_30 (nI p) v (r + 2 + j) (nI i) (s3_trial n t)) (lp_X4_does_34 (nI p) v (r + 2 + j) (nI i) ml) := by
  intro j
  induction j with
  | zero =>
    intro i r M t ml d hi hI hR hL
    have hN := hI.2.1
    have hIl : HI N M (g4_d ml) := by rw [Lm_d hL]; exact hI
    have hd : f_X0_deedOf (g3_trial (s3_trial n t)) (nI p) = some (deed d N M p) := deedOf_e hI hR hp
    obtain ⟨m2, e2, hL2⟩ := Lm_back hL
    obtain ⟨t1, e3, hR3⟩ := go_e hI hR
    have e3' : f_X0_go (g3_trial (s3_trial n t)) = some t1 := e3
    have hi4 : i = 400 := by omega
    subst hi4
    rw [Nat.add_zero, show r + 2 = (r + 1) + 1 by omega, lp_X3_does_30, lp_X4_does_34]
    simp only [show ¬ ((400 : Int32) < nI 400) from by decide, show (400 : Int32) ≤ nI 400 from by decide, hd, doesNow_e hIl hp, Lm_d hL, e2, if_true, if_false, reduceCtorEq, bd1_e, bd2_e, bd3_e, jn1_e, jn2_e, bI_0]
    by_cases c : deed d N M p = v
    · simp only [c, show ¬ ((1 : Int32) = 0) from by decide, if_true, if_false, reduceCtorEq, bd1_e, bd2_e, bd3_e, jn1_e, jn2_e, bI_0]
      exact ⟨_, _, _, rfl, rfl, Rel_t (Lm_rel h hL2) _⟩
    · simp only [c, e3', if_true, if_false, reduceCtorEq, bd1_e, bd2_e, bd3_e, jn1_e, jn2_e, bI_0]
      rw [lp_X3_does_30]
      simp only [show (400 : Int32) < nI 400 + 1 from by decide, if_true, if_false, reduceCtorEq, bd1_e, bd2_e, bd3_e, jn1_e, jn2_e, bI_0]
      exact op_f3 (Rel_t (Lm_rel h hL2) _)
  | succ j ih =>
    intro i r M t ml d hi hI hR hL
    have hN := hI.2.1
    have hIl : HI N M (g4_d ml) := by rw [Lm_d hL]; exact hI
    have hd : f_X0_deedOf (g3_trial (s3_trial n t)) (nI p) = some (deed d N M p) := deedOf_e hI hR hp
    obtain ⟨m2, e2, hL2⟩ := Lm_back hL
    obtain ⟨t1, e3, hR3⟩ := go_e hI hR
    obtain ⟨m3, e4, hL3⟩ := Lm_step hL hI
    have e3' : f_X0_go (g3_trial (s3_trial n t)) = some t1 := e3
    rw [show r + 2 + (j + 1) = (r + 2 + j) + 1 by omega, lp_X3_does_30, lp_X4_does_34]
    have g1 : ¬ ((400 : Int32) < nI i) := nI_nlt (a := 400) (b := i) (by omega) (by omega)
    have g2 : ¬ ((400 : Int32) ≤ nI i) := nle (a := i) (b := 400) (by omega) (by omega) (by omega)
    simp only [g1, g2, hd, doesNow_e hIl hp, Lm_d hL, e2, if_true, if_false, reduceCtorEq, bd1_e, bd2_e, bd3_e, jn1_e, jn2_e, bI_0]
    by_cases c : deed d N M p = v
    · simp only [c, show ¬ ((1 : Int32) = 0) from by decide, if_true, if_false, reduceCtorEq, bd1_e, bd2_e, bd3_e, jn1_e, jn2_e, bI_0]
      exact ⟨_, _, _, rfl, rfl, Rel_t (Lm_rel h hL2) _⟩
    · simp only [c, e3', e4, nI_1, if_true, if_false, reduceCtorEq, bd1_e, bd2_e, bd3_e, jn1_e, jn2_e, bI_0]
      exact ih (i + 1) r (nxM M) t1 m3 _ (by omega) (HI_step hI) hR3 hL3
theorem FU_2 (j : Nat) (h : j < 1000) : ∃ r, FU = r + 2 + j := ⟨999998 - j, by unfold FU; omega⟩
theorem op_does {n : NS} {m : MS} (h : Rel n m) (p1 p2 : Int32) : Op2 (f_X3_does n p1 p2) (f_X4_does m p1 p2) := by
  obtain ⟨N, M, hI, hR⟩ := h.1
  have hN := hI.2.1
  unfold f_X3_does f_X4_does
  simp only [isThere_e (hR.1.trans hI.1), isPerson_e hI, isIn_e, isDone_e, bd1_e, bI_0]
  rcases pin_c hN p1 with c1 | ⟨p, hp, rfl, c1⟩
  · simp only [c1, if_true, if_false, reduceCtorEq, bd1_e, bd2_e, bd3_e, jn1_e, jn2_e, bI_0]; exact op_f0 h
  cases c2 : rng p2 0 4
  · simp only [c1, if_true, if_false, reduceCtorEq, bd1_e, bd2_e, bd3_e, jn1_e, jn2_e, bI_0]; exact op_f0 h
  obtain ⟨t, et, hT⟩ := trial_e hI hR
  obtain ⟨m1, em1, hL1⟩ := Lm_start m
  obtain ⟨r, e⟩ := FU_2 399 (by omega)
  simp only [c1, et, em1, if_true, if_false, reduceCtorEq, bd1_e, bd2_e, bd3_e, jn1_e, jn2_e, bI_0]
  rw [e]
  exact does_l h hp 399 1 r M t m1 _ (by omega) hI hT hL1
theorem comes_l {n : NS} {m : MS} {N p : Nat} {v : Int32} (h : Rel n m) (hp : p < N) : ∀ (j i r M : Nat) (t : HS) (ml : MS) (d : FI), i + j = 400 → HI N M d → RH N d t → Lm m ml d → Op2 (lp_X3_comes_34 (nI p) v (r + 2 + j) (nI i) (s3_trial n t)) (lp_X4_comes_41 (nI p) v (r + 2 + j) (nI i) ml) := by
  intro j
  induction j with
  | zero =>
    intro i r M t ml d hi hI hR hL
    have hN := hI.2.1
    have hd : g0_notes (g3_trial (s3_trial n t)) p = d (35 + 4 * p + 2) := (hR.2.2.2.2.2 p hp).2.2.1
    obtain ⟨m2, e2, hL2⟩ := Lm_back hL
    obtain ⟨t1, e3, hR3⟩ := go_e hI hR
    have e3' : f_X0_go (g3_trial (s3_trial n t)) = some t1 := e3
    have hi4 : i = 400 := by omega
    subst hi4
    rw [Nat.add_zero, show r + 2 = (r + 1) + 1 by omega, lp_X3_comes_34, lp_X4_comes_41]
    simp only [show ¬ ((400 : Int32) < nI 400) from by decide, show (400 : Int32) ≤ nI 400 from by decide, gd_nI (show p < 8 by omega) (show (8 : Nat) < 2 ^ 31 by omega), nI_clamp (show p < 2 ^ 31 by omega), hd, its2 (show p < 8 by omega), Lm_d hL, e2, if_true, if_false, reduceCtorEq, bd1_e, bd2_e, bd3_e, jn1_e, jn2_e, bI_0]
    by_cases c : d (35 + 4 * p + 2) < v
    · simp only [c, e3', if_true, if_false, reduceCtorEq, bd1_e, bd2_e, bd3_e, jn1_e, jn2_e, bI_0]
      rw [lp_X3_comes_34]
      simp only [show (400 : Int32) < nI 400 + 1 from by decide, if_true, if_false, reduceCtorEq, bd1_e, bd2_e, bd3_e, jn1_e, jn2_e, bI_0]
      exact op_f3 (Rel_t (Lm_rel h hL2) _)
    · simp only [c, show ¬ ((1 : Int32) = 0) from by decide, if_true, if_false, reduceCtorEq, bd1_e, bd2_e, bd3_e, jn1_e, jn2_e, bI_0]
      exact ⟨_, _, _, rfl, rfl, Rel_t (Lm_rel h hL2) _⟩
  | succ j ih =>
    intro i r M t ml d hi hI hR hL
    have hN := hI.2.1
    have hd : g0_notes (g3_trial (s3_trial n t)) p = d (35 + 4 * p + 2) := (hR.2.2.2.2.2 p hp).2.2.1
    obtain ⟨m2, e2, hL2⟩ := Lm_back hL
    obtain ⟨t1, e3, hR3⟩ := go_e hI hR
    obtain ⟨m3, e4, hL3⟩ := Lm_step hL hI
    have e3' : f_X0_go (g3_trial (s3_trial n t)) = some t1 := e3
    rw [show r + 2 + (j + 1) = (r + 2 + j) + 1 by omega, lp_X3_comes_34, lp_X4_comes_41]
    have g1 : ¬ ((400 : Int32) < nI i) := nI_nlt (a := 400) (b := i) (by omega) (by omega)
    have g2 : ¬ ((400 : Int32) ≤ nI i) := nle (a := i) (b := 400) (by omega) (by omega) (by omega)
    simp only [g1, g2, gd_nI (show p < 8 by omega) (show (8 : Nat) < 2 ^ 31 by omega), nI_clamp (show p < 2 ^ 31 by omega), hd, its2 (show p < 8 by omega), Lm_d hL, e2, if_true, if_false, reduceCtorEq, bd1_e, bd2_e, bd3_e, jn1_e, jn2_e, bI_0]
    by_cases c : d (35 + 4 * p + 2) < v
    · have c' : ¬ v ≤ d (35 + 4 * p + 2) := by rw [i32_le]; rw [i32_lt] at c; omega
      simp only [c, c', e3', e4, nI_1, if_true, if_false, reduceCtorEq, bd1_e, bd2_e, bd3_e, jn1_e, jn2_e, bI_0]
      exact ih (i + 1) r (nxM M) t1 m3 _ (by omega) (HI_step hI) hR3 hL3
    · have c' : v ≤ d (35 + 4 * p + 2) := by rw [i32_le]; rw [i32_lt] at c; omega
      simp only [c, c', show ¬ ((1 : Int32) = 0) from by decide, if_true, if_false, reduceCtorEq, bd1_e, bd2_e, bd3_e, jn1_e, jn2_e, bI_0]
      exact ⟨_, _, _, rfl, rfl, Rel_t (Lm_rel h hL2) _⟩
theorem op_comes {n : NS} {m : MS} (h : Rel n m) (p1 p2 : Int32) : Op2 (f_X3_comes n p1 p2) (f_X4_comes m p1 p2) := by
  obtain ⟨N, M, hI, hR⟩ := h.1
  have hN := hI.2.1
  unfold f_X3_comes f_X4_comes
  simp only [isThere_e (hR.1.trans hI.1), isPerson_e hI, isIn_e, in_note, bd1_e, bI_0]
  rcases pin_c hN p1 with c1 | ⟨p, hp, rfl, c1⟩
  · simp only [c1, if_true, if_false, reduceCtorEq, bd1_e, bd2_e, bd3_e, jn1_e, jn2_e, bI_0]; exact op_f0 h
  cases c2 : rng p2 (-9999) 9999
  · simp only [c1, if_true, if_false, reduceCtorEq, bd1_e, bd2_e, bd3_e, jn1_e, jn2_e, bI_0]; exact op_f0 h
  obtain ⟨t, et, hT⟩ := trial_e hI hR
  obtain ⟨m1, em1, hL1⟩ := Lm_start m
  obtain ⟨r, e⟩ := FU_2 400 (by omega)
  simp only [c1, et, em1, if_true, if_false, reduceCtorEq, bd1_e, bd2_e, bd3_e, jn1_e, jn2_e, bI_0]
  rw [e]
  exact comes_l h hp 400 0 r M t m1 _ (by omega) hI hT hL1
