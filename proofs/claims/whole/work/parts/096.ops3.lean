/-! PURE 5: rows put aside, moments on -/
def rst (a d : FI) : FI := fun i => if i < 67 then a i else d i
theorem cp_d_aside_l : ∀ (j P r : Nat) (m : MS), P + j = 67 → lp_X4_copies_d_aside_2 (r + j) (nI P) m = lp_X4_copies_d_aside_2 r (nI 67) (s4_aside m (fun i => if P ≤ i ∧ i < 67 then g4_d m i else g4_aside m i)) := by
  intro j
  induction j with
  | zero =>
    intro P r m hP
    have e : (fun i => if P ≤ i ∧ i < 67 then g4_d m i else g4_aside m i) = g4_aside m := funext fun i => if_neg (by omega)
    rw [e, show P = 67 by omega]
    rfl
  | succ j ih =>
    intro P r m hP
    rw [show r + (j + 1) = (r + j) + 1 by omega, lp_X4_copies_d_aside_2, if_neg (show ¬ (67 : Int32) ≤ nI P from nle (a := P) (b := 67) (by omega) (by omega) (by omega)), gd_nI (by omega) (by omega), gd_nI (by omega) (by omega), nI_clamp (by omega), jn1_e, nI_1]
    refine (ih (P + 1) r _ (by omega)).trans ?_
    congr 1
    refine congrArg (s4_aside m) (funext fun i => ?_)
    show (if P + 1 ≤ i ∧ i < 67 then g4_d m i else upd (g4_aside m) P (g4_d m P) i) = _
    rw [upd_e]
    by_cases h1 : i = P
    · subst h1
      rw [if_neg (by omega), if_pos rfl, if_pos (by omega)]
    · rw [if_neg h1]
      by_cases h2 : P + 1 ≤ i ∧ i < 67
      · rw [if_pos h2, if_pos (by omega)]
      · rw [if_neg h2, if_neg (by omega)]
theorem cp_d_aside (m : MS) : f_X4_copies_d_aside m = some (s4_aside m (rst (g4_d m) (g4_aside m))) := by
  unfold f_X4_copies_d_aside
  obtain ⟨r, e⟩ := FU_s 67 (by omega)
  rw [e]
  refine (cp_d_aside_l 67 0 (r + 1) m (by omega)).trans ?_
  rw [lp_X4_copies_d_aside_2, if_pos (show (67 : Int32) ≤ nI 67 by decide)]
  refine congrArg (fun x => some (s4_aside m x)) (funext fun i => ?_)
  unfold rst
  by_cases h : i < 67
  · rw [if_pos (by omega), if_pos h]
  · rw [if_neg (by omega), if_neg h]
theorem cp_aside_d_l : ∀ (j P r : Nat) (m : MS), P + j = 67 → lp_X4_copies_aside_d_2 (r + j) (nI P) m = lp_X4_copies_aside_d_2 r (nI 67) (s4_d m (fun i => if P ≤ i ∧ i < 67 then g4_aside m i else g4_d m i)) := by
  intro j
  induction j with
  | zero =>
    intro P r m hP
    have e : (fun i => if P ≤ i ∧ i < 67 then g4_aside m i else g4_d m i) = g4_d m := funext fun i => if_neg (by omega)
    rw [e, show P = 67 by omega]
    rfl
  | succ j ih =>
    intro P r m hP
    rw [show r + (j + 1) = (r + j) + 1 by omega, lp_X4_copies_aside_d_2, if_neg (show ¬ (67 : Int32) ≤ nI P from nle (a := P) (b := 67) (by omega) (by omega) (by omega)), gd_nI (by omega) (by omega), gd_nI (by omega) (by omega), nI_clamp (by omega), jn1_e, nI_1]
    refine (ih (P + 1) r _ (by omega)).trans ?_
    congr 1
    refine congrArg (s4_d m) (funext fun i => ?_)
    show (if P + 1 ≤ i ∧ i < 67 then g4_aside m i else upd (g4_d m) P (g4_aside m P) i) = _
    rw [upd_e]
    by_cases h1 : i = P
    · subst h1
      rw [if_neg (by omega), if_pos rfl, if_pos (by omega)]
    · rw [if_neg h1]
      by_cases h2 : P + 1 ≤ i ∧ i < 67
      · rw [if_pos h2, if_pos (by omega)]
      · rw [if_neg h2, if_neg (by omega)]
theorem cp_aside_d (m : MS) : f_X4_copies_aside_d m = some (s4_d m (rst (g4_aside m) (g4_d m))) := by
  unfold f_X4_copies_aside_d
  obtain ⟨r, e⟩ := FU_s 67 (by omega)
  rw [e]
  refine (cp_aside_d_l 67 0 (r + 1) m (by omega)).trans ?_
  rw [lp_X4_copies_aside_d_2, if_pos (show (67 : Int32) ≤ nI 67 by decide)]
  refine congrArg (fun x => some (s4_d m x)) (funext fun i => ?_)
  unfold rst
  by_cases h : i < 67
  · rw [if_pos (by omega), if_pos h]
  · rw [if_neg (by omega), if_neg h]
theorem cp_d_e_l : ∀ (j P r : Nat) (m : MS), P + j = 67 → lp_X4_copies_d_e_2 (r + j) (nI P) m = lp_X4_copies_d_e_2 r (nI 67) (s4_e m (fun i => if P ≤ i ∧ i < 67 then g4_d m i else g4_e m i)) := by
  intro j
  induction j with
  | zero =>
    intro P r m hP
    have e : (fun i => if P ≤ i ∧ i < 67 then g4_d m i else g4_e m i) = g4_e m := funext fun i => if_neg (by omega)
    rw [e, show P = 67 by omega]
    rfl
  | succ j ih =>
    intro P r m hP
    rw [show r + (j + 1) = (r + j) + 1 by omega, lp_X4_copies_d_e_2, if_neg (show ¬ (67 : Int32) ≤ nI P from nle (a := P) (b := 67) (by omega) (by omega) (by omega)), gd_nI (by omega) (by omega), gd_nI (by omega) (by omega), nI_clamp (by omega), jn1_e, nI_1]
    refine (ih (P + 1) r _ (by omega)).trans ?_
    congr 1
    refine congrArg (s4_e m) (funext fun i => ?_)
    show (if P + 1 ≤ i ∧ i < 67 then g4_d m i else upd (g4_e m) P (g4_d m P) i) = _
    rw [upd_e]
    by_cases h1 : i = P
    · subst h1
      rw [if_neg (by omega), if_pos rfl, if_pos (by omega)]
    · rw [if_neg h1]
      by_cases h2 : P + 1 ≤ i ∧ i < 67
      · rw [if_pos h2, if_pos (by omega)]
      · rw [if_neg h2, if_neg (by omega)]
theorem cp_d_e (m : MS) : f_X4_copies_d_e m = some (s4_e m (rst (g4_d m) (g4_e m))) := by
  unfold f_X4_copies_d_e
  obtain ⟨r, e⟩ := FU_s 67 (by omega)
  rw [e]
  refine (cp_d_e_l 67 0 (r + 1) m (by omega)).trans ?_
  rw [lp_X4_copies_d_e_2, if_pos (show (67 : Int32) ≤ nI 67 by decide)]
  refine congrArg (fun x => some (s4_e m x)) (funext fun i => ?_)
  unfold rst
  by_cases h : i < 67
  · rw [if_pos (by omega), if_pos h]
  · rw [if_neg (by omega), if_neg h]
theorem cp_e_d_l : ∀ (j P r : Nat) (m : MS), P + j = 67 → lp_X4_copies_e_d_2 (r + j) (nI P) m = lp_X4_copies_e_d_2 r (nI 67) (s4_d m (fun i => if P ≤ i ∧ i < 67 then g4_e m i else g4_d m i)) := by
  intro j
  induction j with
  | zero =>
    intro P r m hP
    have e : (fun i => if P ≤ i ∧ i < 67 then g4_e m i else g4_d m i) = g4_d m := funext fun i => if_neg (by omega)
    rw [e, show P = 67 by omega]
    rfl
  | succ j ih =>
    intro P r m hP
    rw [show r + (j + 1) = (r + j) + 1 by omega, lp_X4_copies_e_d_2, if_neg (show ¬ (67 : Int32) ≤ nI P from nle (a := P) (b := 67) (by omega) (by omega) (by omega)), gd_nI (by omega) (by omega), gd_nI (by omega) (by omega), nI_clamp (by omega), jn1_e, nI_1]
    refine (ih (P + 1) r _ (by omega)).trans ?_
    congr 1
    refine congrArg (s4_d m) (funext fun i => ?_)
    show (if P + 1 ≤ i ∧ i < 67 then g4_e m i else upd (g4_d m) P (g4_e m P) i) = _
    rw [upd_e]
    by_cases h1 : i = P
    · subst h1
      rw [if_neg (by omega), if_pos rfl, if_pos (by omega)]
    · rw [if_neg h1]
      by_cases h2 : P + 1 ≤ i ∧ i < 67
      · rw [if_pos h2, if_pos (by omega)]
      · rw [if_neg h2, if_neg (by omega)]
theorem cp_e_d (m : MS) : f_X4_copies_e_d m = some (s4_d m (rst (g4_e m) (g4_d m))) := by
  unfold f_X4_copies_e_d
  obtain ⟨r, e⟩ := FU_s 67 (by omega)
  rw [e]
  refine (cp_e_d_l 67 0 (r + 1) m (by omega)).trans ?_
  rw [lp_X4_copies_e_d_2, if_pos (show (67 : Int32) ≤ nI 67 by decide)]
  refine congrArg (fun x => some (s4_d m x)) (funext fun i => ?_)
  unfold rst
  by_cases h : i < 67
  · rw [if_pos (by omega), if_pos h]
  · rw [if_neg (by omega), if_neg h]
theorem cp_d_kept_l : ∀ (j P r : Nat) (m : MS), P + j = 67 → lp_X4_copies_d_kept_2 (r + j) (nI P) m = lp_X4_copies_d_kept_2 r (nI 67) (s4_kept m (fun i => if P ≤ i ∧ i < 67 then g4_d m i else g4_kept m i)) := by
  intro j
  induction j with
  | zero =>
    intro P r m hP
    have e : (fun i => if P ≤ i ∧ i < 67 then g4_d m i else g4_kept m i) = g4_kept m := funext fun i => if_neg (by omega)
    rw [e, show P = 67 by omega]
    rfl
  | succ j ih =>
    intro P r m hP
    rw [show r + (j + 1) = (r + j) + 1 by omega, lp_X4_copies_d_kept_2, if_neg (show ¬ (67 : Int32) ≤ nI P from nle (a := P) (b := 67) (by omega) (by omega) (by omega)), gd_nI (by omega) (by omega), gd_nI (by omega) (by omega), nI_clamp (by omega), jn1_e, nI_1]
    refine (ih (P + 1) r _ (by omega)).trans ?_
    congr 1
    refine congrArg (s4_kept m) (funext fun i => ?_)
    show (if P + 1 ≤ i ∧ i < 67 then g4_d m i else upd (g4_kept m) P (g4_d m P) i) = _
    rw [upd_e]
    by_cases h1 : i = P
    · subst h1
      rw [if_neg (by omega), if_pos rfl, if_pos (by omega)]
    · rw [if_neg h1]
      by_cases h2 : P + 1 ≤ i ∧ i < 67
      · rw [if_pos h2, if_pos (by omega)]
      · rw [if_neg h2, if_neg (by omega)]
theorem cp_d_kept (m : MS) : f_X4_copies_d_kept m = some (s4_kept m (rst (g4_d m) (g4_kept m))) := by
  unfold f_X4_copies_d_kept
  obtain ⟨r, e⟩ := FU_s 67 (by omega)
  rw [e]
  refine (cp_d_kept_l 67 0 (r + 1) m (by omega)).trans ?_
  rw [lp_X4_copies_d_kept_2, if_pos (show (67 : Int32) ≤ nI 67 by decide)]
  refine congrArg (fun x => some (s4_kept m x)) (funext fun i => ?_)
  unfold rst
  by_cases h : i < 67
  · rw [if_pos (by omega), if_pos h]
  · rw [if_neg (by omega), if_neg h]
theorem cp_kept_d_l : ∀ (j P r : Nat) (m : MS), P + j = 67 → lp_X4_copies_kept_d_2 (r + j) (nI P) m = lp_X4_copies_kept_d_2 r (nI 67) (s4_d m (fun i => if P ≤ i ∧ i < 67 then g4_kept m i else g4_d m i)) := by
  intro j
  induction j with
  | zero =>
    intro P r m hP
    have e : (fun i => if P ≤ i ∧ i < 67 then g4_kept m i else g4_d m i) = g4_d m := funext fun i => if_neg (by omega)
    rw [e, show P = 67 by omega]
    rfl
  | succ j ih =>
    intro P r m hP
    rw [show r + (j + 1) = (r + j) + 1 by omega, lp_X4_copies_kept_d_2, if_neg (show ¬ (67 : Int32) ≤ nI P from nle (a := P) (b := 67) (by omega) (by omega) (by omega)), gd_nI (by omega) (by omega), gd_nI (by omega) (by omega), nI_clamp (by omega), jn1_e, nI_1]
    refine (ih (P + 1) r _ (by omega)).trans ?_
    congr 1
    refine congrArg (s4_d m) (funext fun i => ?_)
    show (if P + 1 ≤ i ∧ i < 67 then g4_kept m i else upd (g4_d m) P (g4_kept m P) i) = _
    rw [upd_e]
    by_cases h1 : i = P
    · subst h1
      rw [if_neg (by omega), if_pos rfl, if_pos (by omega)]
    · rw [if_neg h1]
      by_cases h2 : P + 1 ≤ i ∧ i < 67
      · rw [if_pos h2, if_pos (by omega)]
      · rw [if_neg h2, if_neg (by omega)]
theorem cp_kept_d (m : MS) : f_X4_copies_kept_d m = some (s4_d m (rst (g4_kept m) (g4_d m))) := by
  unfold f_X4_copies_kept_d
  obtain ⟨r, e⟩ := FU_s 67 (by omega)
  rw [e]
  refine (cp_kept_d_l 67 0 (r + 1) m (by omega)).trans ?_
  rw [lp_X4_copies_kept_d_2, if_pos (show (67 : Int32) ≤ nI 67 by decide)]
  refine congrArg (fun x => some (s4_d m x)) (funext fun i => ?_)
  unfold rst
  by_cases h : i < 67
  · rw [if_pos (by omega), if_pos h]
  · rw [if_neg (by omega), if_neg h]
/-- moments on -/
def itD (N : Nat) : Nat → Nat → FI → FI
  | 0, _, d => d
  | k + 1, M, d => itD N k (nxM M) (stepD d N M)
def itM : Nat → Nat → Nat
  | 0, M => M
  | k + 1, M => itM k (nxM M)
theorem it_hi {N : Nat} : ∀ (k M : Nat) (d : FI), HI N M d → HI N (itM k M) (itD N k M d) := by
  intro k
  induction k with
  | zero => intro M d h; exact h
  | succ k ih => intro M d h; exact ih (nxM M) _ (HI_step h)
theorem st_67 {d : FI} {N M j : Nat} (hN : N ≤ 8) (hj : 67 ≤ j) : stepD d N M j = d j := by
  unfold stepD st3 st2
  by_cases hc : M + 1 = 16
  · rw [if_pos hc, upd_n (by omega), if_neg (by omega), upd_n (by omega), if_neg (by omega)]
  · rw [if_neg hc, upd_n (by omega), if_neg (by omega)]
theorem it_67 {N : Nat} (hN : N ≤ 8) : ∀ (k M : Nat) (d : FI) (j : Nat), 67 ≤ j → itD N k M d j = d j := by
  intro k
  induction k with
  | zero => intro M d j hj; rfl
  | succ k ih => intro M d j hj; exact (ih (nxM M) _ j hj).trans (st_67 hN hj)
/-- the class's trial -/
theorem goOn_l {N K : Nat} (hK : K < 1000) : ∀ (j P r M : Nat) (d : FI) (h : HS), P + j = K → HI N M d → RH N d h → ∃ h', lp_X0_goOn_2 (nI K) (r + j) (nI P) h = lp_X0_goOn_2 (nI K) r (nI K) h' ∧ RH N (itD N j M d) h' := by
  intro j
  induction j with
  | zero => intro P r M d h hP hI hR; exact ⟨h, by rw [show P = K by omega]; rfl, hR⟩
  | succ j ih =>
    intro P r M d h hP hI hR
    obtain ⟨h1, e1, hR1⟩ := go_e hI hR
    obtain ⟨h2, e2, hR2⟩ := ih (P + 1) r (nxM M) _ h1 (by omega) (HI_step hI) hR1
    refine ⟨h2, ?_, hR2⟩
    rw [show r + (j + 1) = (r + j) + 1 by omega, lp_X0_goOn_2, if_neg (nle (by omega) (by omega) (by omega)), e1, bd1_e, nI_1]
    exact e2
theorem goOn_e {N M K : Nat} {d : FI} {h : HS} (hK : K < 1000) (hI : HI N M d) (hR : RH N d h) : ∃ h', f_X0_goOn h (nI K) = some h' ∧ RH N (itD N K M d) h' := by
  unfold f_X0_goOn
  obtain ⟨r, e⟩ := FU_s K (by omega)
  obtain ⟨h', e1, hR'⟩ := goOn_l hK K 0 (r + 1) M d h (by omega) hI hR
  refine ⟨h', ?_, hR'⟩
  rw [e]
  refine Eq.trans e1 ?_
  rw [lp_X0_goOn_2, if_pos (nI_le (Nat.le_refl K) (by omega))]
theorem allNotesOn_e {N M K : Nat} {d : FI} {h : HS} (hK : K < 1000) (hI : HI N M d) (hR : RH N d h) : ∃ h', f_X0_allNotesOn h (nI K) = some (hsN (itD N K M d) N, h') ∧ RH N (itD N K M d) h' := by
  obtain ⟨h', e, hR'⟩ := goOn_e hK hI hR
  refine ⟨h', ?_, hR'⟩
  unfold f_X0_allNotesOn
  rw [e, bd1_e, allNotes_e (it_hi K M d hI) hR', bd1_e]
theorem gc16 {α : Type} {x : Option α} : gc (0 : Int32) (0 : Int32) (16 : Int32) 16 16 x = x := rfl
theorem gc8 {α : Type} {N : Nat} (hN : N ≤ 8) {x : Option α} : gc (0 : Int32) (0 : Int32) (nI N) 8 8 x = x := by
  unfold gc
  rw [if_neg]
  have e : (nI N).toNatClampNeg = N := nI_clamp (by omega)
  have e0 : (0 : Int32).toNatClampNeg = 0 := rfl
  rw [e, e0]
  intro q
  rcases q with q | q | q | q | q
  · exact absurd q (by decide)
  · exact absurd q (by decide)
  · exact nI_pos (by omega) q
  · omega
  · omega
theorem cpy0 {f g : FI} {n j : Nat} (h : j < n) : va_cpy f g 0 0 n j = f j := by
  have := pk_cpy_in (f := f) (g := g) (sp := 0) (dp := 0) (n := n) (j := j) (by omega) (by omega)
  rw [this, Nat.zero_add, Nat.sub_zero]
theorem become_th_e {d : FI} {k0 h0 t0 : HS} {N M : Nat} (hI : HI N M d) (hR : RH N d h0) : ∃ t, f_X0_become_th k0 h0 t0 = some t ∧ RH N d t := by
  have hN := hI.2.1
  have hp : g0_people h0 = nI N := hR.1.trans hI.1
  obtain ⟨b0, b1, b2, b3, b4, b5⟩ := hR
  unfold f_X0_become_th
  simp only [jn1_e, gc16, gs0_night_night, gs0_night_moment, gs0_night_people, gs0_night_cues, gs0_night_tenses, gs0_night_kinds, gs0_night_freshes, gs0_night_notes, gs0_night_dids, gs0_night_deeds, gs0_moment_night, gs0_moment_moment, gs0_moment_people, gs0_moment_cues, gs0_moment_tenses, gs0_moment_kinds, gs0_moment_freshes, gs0_moment_notes, gs0_moment_dids, gs0_moment_deeds, gs0_people_night, gs0_people_moment, gs0_people_people, gs0_people_cues, gs0_people_tenses, gs0_people_kinds, gs0_people_freshes, gs0_people_notes, gs0_people_dids, gs0_people_deeds, gs0_cues_night, gs0_cues_moment, gs0_cues_people, gs0_cues_cues, gs0_cues_tenses, gs0_cues_kinds, gs0_cues_freshes, gs0_cues_notes, gs0_cues_dids, gs0_cues_deeds, gs0_tenses_night, gs0_tenses_moment, gs0_tenses_people, gs0_tenses_cues, gs0_tenses_tenses, gs0_tenses_kinds, gs0_tenses_freshes, gs0_tenses_notes, gs0_tenses_dids, gs0_tenses_deeds, gs0_kinds_night, gs0_kinds_moment, gs0_kinds_people, gs0_kinds_cues, gs0_kinds_tenses, gs0_kinds_kinds, gs0_kinds_freshes, gs0_kinds_notes, gs0_kinds_dids, gs0_kinds_deeds, gs0_freshes_night, gs0_freshes_moment, gs0_freshes_people, gs0_freshes_cues, gs0_freshes_tenses, gs0_freshes_kinds, gs0_freshes_freshes, gs0_freshes_notes, gs0_freshes_dids, gs0_freshes_deeds, gs0_notes_night, gs0_notes_moment, gs0_notes_people, gs0_notes_cues, gs0_notes_tenses, gs0_notes_kinds, gs0_notes_freshes, gs0_notes_notes, gs0_notes_dids, gs0_notes_deeds, gs0_dids_night, gs0_dids_moment, gs0_dids_people, gs0_dids_cues, gs0_dids_tenses, gs0_dids_kinds, gs0_dids_freshes, gs0_dids_notes, gs0_dids_dids, gs0_dids_deeds, gs0_deeds_night, gs0_deeds_moment, gs0_deeds_people, gs0_deeds_cues, gs0_deeds_tenses, gs0_deeds_kinds, gs0_deeds_freshes, gs0_deeds_notes, gs0_deeds_dids, gs0_deeds_deeds, hp, gc8 hN, cl0, show (16 : Int32).toNatClampNeg = 16 from rfl, nI_clamp (show N < 2 ^ 31 by omega)]
  refine ⟨_, rfl, ?_⟩
  unfold RH
  simp only [gs0_night_night, gs0_night_moment, gs0_night_people, gs0_night_cues, gs0_night_tenses, gs0_night_kinds, gs0_night_freshes, gs0_night_notes, gs0_night_dids, gs0_night_deeds, gs0_moment_night, gs0_moment_moment, gs0_moment_people, gs0_moment_cues, gs0_moment_tenses, gs0_moment_kinds, gs0_moment_freshes, gs0_moment_notes, gs0_moment_dids, gs0_moment_deeds, gs0_people_night, gs0_people_moment, gs0_people_people, gs0_people_cues, gs0_people_tenses, gs0_people_kinds, gs0_people_freshes, gs0_people_notes, gs0_people_dids, gs0_people_deeds, gs0_cues_night, gs0_cues_moment, gs0_cues_people, gs0_cues_cues, gs0_cues_tenses, gs0_cues_kinds, gs0_cues_freshes, gs0_cues_notes, gs0_cues_dids, gs0_cues_deeds, gs0_tenses_night, gs0_tenses_moment, gs0_tenses_people, gs0_tenses_cues, gs0_tenses_tenses, gs0_tenses_kinds, gs0_tenses_freshes, gs0_tenses_notes, gs0_tenses_dids, gs0_tenses_deeds, gs0_kinds_night, gs0_kinds_moment, gs0_kinds_people, gs0_kinds_cues, gs0_kinds_tenses, gs0_kinds_kinds, gs0_kinds_freshes, gs0_kinds_notes, gs0_kinds_dids, gs0_kinds_deeds, gs0_freshes_night, gs0_freshes_moment, gs0_freshes_people, gs0_freshes_cues, gs0_freshes_tenses, gs0_freshes_kinds, gs0_freshes_freshes, gs0_freshes_notes, gs0_freshes_dids, gs0_freshes_deeds, gs0_notes_night, gs0_notes_moment, gs0_notes_people, gs0_notes_cues, gs0_notes_tenses, gs0_notes_kinds, gs0_notes_freshes, gs0_notes_notes, gs0_notes_dids, gs0_notes_deeds, gs0_dids_night, gs0_dids_moment, gs0_dids_people, gs0_dids_cues, gs0_dids_tenses, gs0_dids_kinds, gs0_dids_freshes, gs0_dids_notes, gs0_dids_dids, gs0_dids_deeds, gs0_deeds_night, gs0_deeds_moment, gs0_deeds_people, gs0_deeds_cues, gs0_deeds_tenses, gs0_deeds_kinds, gs0_deeds_freshes, gs0_deeds_notes, gs0_deeds_dids, gs0_deeds_deeds]
  refine ⟨hI.1.symm, b1, b2, fun i hi => (cpy0 hi).trans (b3 i hi), fun i hi => (cpy0 hi).trans (b4 i hi), fun p hp => ?_⟩
  obtain ⟨q0, q1, q2, q3⟩ := b5 p hp
  exact ⟨(cpy0 hp).trans q0, (cpy0 hp).trans q1, (cpy0 hp).trans q2, (cpy0 hp).trans q3⟩
theorem become_ht_e {d : FI} {k0 h0 t0 : HS} {N M : Nat} (hI : HI N M d) (hR : RH N d t0) : ∃ t, f_X0_become_ht k0 h0 t0 = some t ∧ RH N d t := by
  have hN := hI.2.1
  have hp : g0_people t0 = nI N := hR.1.trans hI.1
  obtain ⟨b0, b1, b2, b3, b4, b5⟩ := hR
  unfold f_X0_become_ht
  simp only [jn1_e, gc16, gs0_night_night, gs0_night_moment, gs0_night_people, gs0_night_cues, gs0_night_tenses, gs0_night_kinds, gs0_night_freshes, gs0_night_notes, gs0_night_dids, gs0_night_deeds, gs0_moment_night, gs0_moment_moment, gs0_moment_people, gs0_moment_cues, gs0_moment_tenses, gs0_moment_kinds, gs0_moment_freshes, gs0_moment_notes, gs0_moment_dids, gs0_moment_deeds, gs0_people_night, gs0_people_moment, gs0_people_people, gs0_people_cues, gs0_people_tenses, gs0_people_kinds, gs0_people_freshes, gs0_people_notes, gs0_people_dids, gs0_people_deeds, gs0_cues_night, gs0_cues_moment, gs0_cues_people, gs0_cues_cues, gs0_cues_tenses, gs0_cues_kinds, gs0_cues_freshes, gs0_cues_notes, gs0_cues_dids, gs0_cues_deeds, gs0_tenses_night, gs0_tenses_moment, gs0_tenses_people, gs0_tenses_cues, gs0_tenses_tenses, gs0_tenses_kinds, gs0_tenses_freshes, gs0_tenses_notes, gs0_tenses_dids, gs0_tenses_deeds, gs0_kinds_night, gs0_kinds_moment, gs0_kinds_people, gs0_kinds_cues, gs0_kinds_tenses, gs0_kinds_kinds, gs0_kinds_freshes, gs0_kinds_notes, gs0_kinds_dids, gs0_kinds_deeds, gs0_freshes_night, gs0_freshes_moment, gs0_freshes_people, gs0_freshes_cues, gs0_freshes_tenses, gs0_freshes_kinds, gs0_freshes_freshes, gs0_freshes_notes, gs0_freshes_dids, gs0_freshes_deeds, gs0_notes_night, gs0_notes_moment, gs0_notes_people, gs0_notes_cues, gs0_notes_tenses, gs0_notes_kinds, gs0_notes_freshes, gs0_notes_notes, gs0_notes_dids, gs0_notes_deeds, gs0_dids_night, gs0_dids_moment, gs0_dids_people, gs0_dids_cues, gs0_dids_tenses, gs0_dids_kinds, gs0_dids_freshes, gs0_dids_notes, gs0_dids_dids, gs0_dids_deeds, gs0_deeds_night, gs0_deeds_moment, gs0_deeds_people, gs0_deeds_cues, gs0_deeds_tenses, gs0_deeds_kinds, gs0_deeds_freshes, gs0_deeds_notes, gs0_deeds_dids, gs0_deeds_deeds, hp, gc8 hN, cl0, show (16 : Int32).toNatClampNeg = 16 from rfl, nI_clamp (show N < 2 ^ 31 by omega)]
  refine ⟨_, rfl, ?_⟩
  unfold RH
  simp only [gs0_night_night, gs0_night_moment, gs0_night_people, gs0_night_cues, gs0_night_tenses, gs0_night_kinds, gs0_night_freshes, gs0_night_notes, gs0_night_dids, gs0_night_deeds, gs0_moment_night, gs0_moment_moment, gs0_moment_people, gs0_moment_cues, gs0_moment_tenses, gs0_moment_kinds, gs0_moment_freshes, gs0_moment_notes, gs0_moment_dids, gs0_moment_deeds, gs0_people_night, gs0_people_moment, gs0_people_people, gs0_people_cues, gs0_people_tenses, gs0_people_kinds, gs0_people_freshes, gs0_people_notes, gs0_people_dids, gs0_people_deeds, gs0_cues_night, gs0_cues_moment, gs0_cues_people, gs0_cues_cues, gs0_cues_tenses, gs0_cues_kinds, gs0_cues_freshes, gs0_cues_notes, gs0_cues_dids, gs0_cues_deeds, gs0_tenses_night, gs0_tenses_moment, gs0_tenses_people, gs0_tenses_cues, gs0_tenses_tenses, gs0_tenses_kinds, gs0_tenses_freshes, gs0_tenses_notes, gs0_tenses_dids, gs0_tenses_deeds, gs0_kinds_night, gs0_kinds_moment, gs0_kinds_people, gs0_kinds_cues, gs0_kinds_tenses, gs0_kinds_kinds, gs0_kinds_freshes, gs0_kinds_notes, gs0_kinds_dids, gs0_kinds_deeds, gs0_freshes_night, gs0_freshes_moment, gs0_freshes_people, gs0_freshes_cues, gs0_freshes_tenses, gs0_freshes_kinds, gs0_freshes_freshes, gs0_freshes_notes, gs0_freshes_dids, gs0_freshes_deeds, gs0_notes_night, gs0_notes_moment, gs0_notes_people, gs0_notes_cues, gs0_notes_tenses, gs0_notes_kinds, gs0_notes_freshes, gs0_notes_notes, gs0_notes_dids, gs0_notes_deeds, gs0_dids_night, gs0_dids_moment, gs0_dids_people, gs0_dids_cues, gs0_dids_tenses, gs0_dids_kinds, gs0_dids_freshes, gs0_dids_notes, gs0_dids_dids, gs0_dids_deeds, gs0_deeds_night, gs0_deeds_moment, gs0_deeds_people, gs0_deeds_cues, gs0_deeds_tenses, gs0_deeds_kinds, gs0_deeds_freshes, gs0_deeds_notes, gs0_deeds_dids, gs0_deeds_deeds]
  refine ⟨hI.1.symm, b1, b2, fun i hi => (cpy0 hi).trans (b3 i hi), fun i hi => (cpy0 hi).trans (b4 i hi), fun p hp => ?_⟩
  obtain ⟨q0, q1, q2, q3⟩ := b5 p hp
  exact ⟨(cpy0 hp).trans q0, (cpy0 hp).trans q1, (cpy0 hp).trans q2, (cpy0 hp).trans q3⟩
theorem become_kh_e {d : FI} {k0 h0 t0 : HS} {N M : Nat} (hI : HI N M d) (hR : RH N d h0) : ∃ t, f_X0_become_kh k0 h0 t0 = some t ∧ RH N d t := by
  have hN := hI.2.1
  have hp : g0_people h0 = nI N := hR.1.trans hI.1
  obtain ⟨b0, b1, b2, b3, b4, b5⟩ := hR
  unfold f_X0_become_kh
  simp only [jn1_e, gc16, gs0_night_night, gs0_night_moment, gs0_night_people, gs0_night_cues, gs0_night_tenses, gs0_night_kinds, gs0_night_freshes, gs0_night_notes, gs0_night_dids, gs0_night_deeds, gs0_moment_night, gs0_moment_moment, gs0_moment_people, gs0_moment_cues, gs0_moment_tenses, gs0_moment_kinds, gs0_moment_freshes, gs0_moment_notes, gs0_moment_dids, gs0_moment_deeds, gs0_people_night, gs0_people_moment, gs0_people_people, gs0_people_cues, gs0_people_tenses, gs0_people_kinds, gs0_people_freshes, gs0_people_notes, gs0_people_dids, gs0_people_deeds, gs0_cues_night, gs0_cues_moment, gs0_cues_people, gs0_cues_cues, gs0_cues_tenses, gs0_cues_kinds, gs0_cues_freshes, gs0_cues_notes, gs0_cues_dids, gs0_cues_deeds, gs0_tenses_night, gs0_tenses_moment, gs0_tenses_people, gs0_tenses_cues, gs0_tenses_tenses, gs0_tenses_kinds, gs0_tenses_freshes, gs0_tenses_notes, gs0_tenses_dids, gs0_tenses_deeds, gs0_kinds_night, gs0_kinds_moment, gs0_kinds_people, gs0_kinds_cues, gs0_kinds_tenses, gs0_kinds_kinds, gs0_kinds_freshes, gs0_kinds_notes, gs0_kinds_dids, gs0_kinds_deeds, gs0_freshes_night, gs0_freshes_moment, gs0_freshes_people, gs0_freshes_cues, gs0_freshes_tenses, gs0_freshes_kinds, gs0_freshes_freshes, gs0_freshes_notes, gs0_freshes_dids, gs0_freshes_deeds, gs0_notes_night, gs0_notes_moment, gs0_notes_people, gs0_notes_cues, gs0_notes_tenses, gs0_notes_kinds, gs0_notes_freshes, gs0_notes_notes, gs0_notes_dids, gs0_notes_deeds, gs0_dids_night, gs0_dids_moment, gs0_dids_people, gs0_dids_cues, gs0_dids_tenses, gs0_dids_kinds, gs0_dids_freshes, gs0_dids_notes, gs0_dids_dids, gs0_dids_deeds, gs0_deeds_night, gs0_deeds_moment, gs0_deeds_people, gs0_deeds_cues, gs0_deeds_tenses, gs0_deeds_kinds, gs0_deeds_freshes, gs0_deeds_notes, gs0_deeds_dids, gs0_deeds_deeds, hp, gc8 hN, cl0, show (16 : Int32).toNatClampNeg = 16 from rfl, nI_clamp (show N < 2 ^ 31 by omega)]
  refine ⟨_, rfl, ?_⟩
  unfold RH
  simp only [gs0_night_night, gs0_night_moment, gs0_night_people, gs0_night_cues, gs0_night_tenses, gs0_night_kinds, gs0_night_freshes, gs0_night_notes, gs0_night_dids, gs0_night_deeds, gs0_moment_night, gs0_moment_moment, gs0_moment_people, gs0_moment_cues, gs0_moment_tenses, gs0_moment_kinds, gs0_moment_freshes, gs0_moment_notes, gs0_moment_dids, gs0_moment_deeds, gs0_people_night, gs0_people_moment, gs0_people_people, gs0_people_cues, gs0_people_tenses, gs0_people_kinds, gs0_people_freshes, gs0_people_notes, gs0_people_dids, gs0_people_deeds, gs0_cues_night, gs0_cues_moment, gs0_cues_people, gs0_cues_cues, gs0_cues_tenses, gs0_cues_kinds, gs0_cues_freshes, gs0_cues_notes, gs0_cues_dids, gs0_cues_deeds, gs0_tenses_night, gs0_tenses_moment, gs0_tenses_people, gs0_tenses_cues, gs0_tenses_tenses, gs0_tenses_kinds, gs0_tenses_freshes, gs0_tenses_notes, gs0_tenses_dids, gs0_tenses_deeds, gs0_kinds_night, gs0_kinds_moment, gs0_kinds_people, gs0_kinds_cues, gs0_kinds_tenses, gs0_kinds_kinds, gs0_kinds_freshes, gs0_kinds_notes, gs0_kinds_dids, gs0_kinds_deeds, gs0_freshes_night, gs0_freshes_moment, gs0_freshes_people, gs0_freshes_cues, gs0_freshes_tenses, gs0_freshes_kinds, gs0_freshes_freshes, gs0_freshes_notes, gs0_freshes_dids, gs0_freshes_deeds, gs0_notes_night, gs0_notes_moment, gs0_notes_people, gs0_notes_cues, gs0_notes_tenses, gs0_notes_kinds, gs0_notes_freshes, gs0_notes_notes, gs0_notes_dids, gs0_notes_deeds, gs0_dids_night, gs0_dids_moment, gs0_dids_people, gs0_dids_cues, gs0_dids_tenses, gs0_dids_kinds, gs0_dids_freshes, gs0_dids_notes, gs0_dids_dids, gs0_dids_deeds, gs0_deeds_night, gs0_deeds_moment, gs0_deeds_people, gs0_deeds_cues, gs0_deeds_tenses, gs0_deeds_kinds, gs0_deeds_freshes, gs0_deeds_notes, gs0_deeds_dids, gs0_deeds_deeds]
  refine ⟨hI.1.symm, b1, b2, fun i hi => (cpy0 hi).trans (b3 i hi), fun i hi => (cpy0 hi).trans (b4 i hi), fun p hp => ?_⟩
  obtain ⟨q0, q1, q2, q3⟩ := b5 p hp
  exact ⟨(cpy0 hp).trans q0, (cpy0 hp).trans q1, (cpy0 hp).trans q2, (cpy0 hp).trans q3⟩
theorem become_hk_e {d : FI} {k0 h0 t0 : HS} {N M : Nat} (hI : HI N M d) (hR : RH N d k0) : ∃ t, f_X0_become_hk k0 h0 t0 = some t ∧ RH N d t := by
  have hN := hI.2.1
  have hp : g0_people k0 = nI N := hR.1.trans hI.1
  obtain ⟨b0, b1, b2, b3, b4, b5⟩ := hR
  unfold f_X0_become_hk
  simp only [jn1_e, gc16, gs0_night_night, gs0_night_moment, gs0_night_people, gs0_night_cues, gs0_night_tenses, gs0_night_kinds, gs0_night_freshes, gs0_night_notes, gs0_night_dids, gs0_night_deeds, gs0_moment_night, gs0_moment_moment, gs0_moment_people, gs0_moment_cues, gs0_moment_tenses, gs0_moment_kinds, gs0_moment_freshes, gs0_moment_notes, gs0_moment_dids, gs0_moment_deeds, gs0_people_night, gs0_people_moment, gs0_people_people, gs0_people_cues, gs0_people_tenses, gs0_people_kinds, gs0_people_freshes, gs0_people_notes, gs0_people_dids, gs0_people_deeds, gs0_cues_night, gs0_cues_moment, gs0_cues_people, gs0_cues_cues, gs0_cues_tenses, gs0_cues_kinds, gs0_cues_freshes, gs0_cues_notes, gs0_cues_dids, gs0_cues_deeds, gs0_tenses_night, gs0_tenses_moment, gs0_tenses_people, gs0_tenses_cues, gs0_tenses_tenses, gs0_tenses_kinds, gs0_tenses_freshes, gs0_tenses_notes, gs0_tenses_dids, gs0_tenses_deeds, gs0_kinds_night, gs0_kinds_moment, gs0_kinds_people, gs0_kinds_cues, gs0_kinds_tenses, gs0_kinds_kinds, gs0_kinds_freshes, gs0_kinds_notes, gs0_kinds_dids, gs0_kinds_deeds, gs0_freshes_night, gs0_freshes_moment, gs0_freshes_people, gs0_freshes_cues, gs0_freshes_tenses, gs0_freshes_kinds, gs0_freshes_freshes, gs0_freshes_notes, gs0_freshes_dids, gs0_freshes_deeds, gs0_notes_night, gs0_notes_moment, gs0_notes_people, gs0_notes_cues, gs0_notes_tenses, gs0_notes_kinds, gs0_notes_freshes, gs0_notes_notes, gs0_notes_dids, gs0_notes_deeds, gs0_dids_night, gs0_dids_moment, gs0_dids_people, gs0_dids_cues, gs0_dids_tenses, gs0_dids_kinds, gs0_dids_freshes, gs0_dids_notes, gs0_dids_dids, gs0_dids_deeds, gs0_deeds_night, gs0_deeds_moment, gs0_deeds_people, gs0_deeds_cues, gs0_deeds_tenses, gs0_deeds_kinds, gs0_deeds_freshes, gs0_deeds_notes, gs0_deeds_dids, gs0_deeds_deeds, hp, gc8 hN, cl0, show (16 : Int32).toNatClampNeg = 16 from rfl, nI_clamp (show N < 2 ^ 31 by omega)]
  refine ⟨_, rfl, ?_⟩
  unfold RH
  simp only [gs0_night_night, gs0_night_moment, gs0_night_people, gs0_night_cues, gs0_night_tenses, gs0_night_kinds, gs0_night_freshes, gs0_night_notes, gs0_night_dids, gs0_night_deeds, gs0_moment_night, gs0_moment_moment, gs0_moment_people, gs0_moment_cues, gs0_moment_tenses, gs0_moment_kinds, gs0_moment_freshes, gs0_moment_notes, gs0_moment_dids, gs0_moment_deeds, gs0_people_night, gs0_people_moment, gs0_people_people, gs0_people_cues, gs0_people_tenses, gs0_people_kinds, gs0_people_freshes, gs0_people_notes, gs0_people_dids, gs0_people_deeds, gs0_cues_night, gs0_cues_moment, gs0_cues_people, gs0_cues_cues, gs0_cues_tenses, gs0_cues_kinds, gs0_cues_freshes, gs0_cues_notes, gs0_cues_dids, gs0_cues_deeds, gs0_tenses_night, gs0_tenses_moment, gs0_tenses_people, gs0_tenses_cues, gs0_tenses_tenses, gs0_tenses_kinds, gs0_tenses_freshes, gs0_tenses_notes, gs0_tenses_dids, gs0_tenses_deeds, gs0_kinds_night, gs0_kinds_moment, gs0_kinds_people, gs0_kinds_cues, gs0_kinds_tenses, gs0_kinds_kinds, gs0_kinds_freshes, gs0_kinds_notes, gs0_kinds_dids, gs0_kinds_deeds, gs0_freshes_night, gs0_freshes_moment, gs0_freshes_people, gs0_freshes_cues, gs0_freshes_tenses, gs0_freshes_kinds, gs0_freshes_freshes, gs0_freshes_notes, gs0_freshes_dids, gs0_freshes_deeds, gs0_notes_night, gs0_notes_moment, gs0_notes_people, gs0_notes_cues, gs0_notes_tenses, gs0_notes_kinds, gs0_notes_freshes, gs0_notes_notes, gs0_notes_dids, gs0_notes_deeds, gs0_dids_night, gs0_dids_moment, gs0_dids_people, gs0_dids_cues, gs0_dids_tenses, gs0_dids_kinds, gs0_dids_freshes, gs0_dids_notes, gs0_dids_dids, gs0_dids_deeds, gs0_deeds_night, gs0_deeds_moment, gs0_deeds_people, gs0_deeds_cues, gs0_deeds_tenses, gs0_deeds_kinds, gs0_deeds_freshes, gs0_deeds_notes, gs0_deeds_dids, gs0_deeds_deeds]
  refine ⟨hI.1.symm, b1, b2, fun i hi => (cpy0 hi).trans (b3 i hi), fun i hi => (cpy0 hi).trans (b4 i hi), fun p hp => ?_⟩
  obtain ⟨q0, q1, q2, q3⟩ := b5 p hp
  exact ⟨(cpy0 hp).trans q0, (cpy0 hp).trans q1, (cpy0 hp).trans q2, (cpy0 hp).trans q3⟩
theorem trial_e {n : NS} {d : FI} {N M : Nat} (hI : HI N M d) (hR : RH N d (g3_house n)) : ∃ t, f_X3_startTrial n = some (s3_trial n t) ∧ RH N d t := by
  obtain ⟨t, e, hT⟩ := become_th_e (k0 := g3_kept n) (t0 := g3_trial n) hI hR
  exact ⟨t, by unfold f_X3_startTrial; rw [e]; rfl, hT⟩
/-- the reference while a row is put aside -/
def Lm (m ml : MS) (d : FI) : Prop := ∃ dg a, ml = s4_d (s4_aside (s4_doing m dg) a) d ∧ (∀ j, j < 67 → a j = g4_d m j) ∧ ∀ j, 67 ≤ j → d j = g4_d m j
theorem Lm_d {m ml : MS} {d : FI} (h : Lm m ml d) : g4_d ml = d := by
  obtain ⟨dg, a, rfl, -, -⟩ := h
  rfl
theorem Lm_start (m : MS) : ∃ m', f_X4_copies_d_aside m = some m' ∧ Lm m m' (g4_d m) := by
  refine ⟨_, cp_d_aside m, g4_doing m, rst (g4_d m) (g4_aside m), rfl, fun j hj => if_pos hj, fun _ _ => rfl⟩
theorem Lm_back {m ml : MS} {d : FI} (h : Lm m ml d) : ∃ m', f_X4_copies_aside_d ml = some m' ∧ Lm m m' (g4_d m) := by
  obtain ⟨dg, a, rfl, h1, h2⟩ := h
  refine ⟨_, cp_aside_d _, dg, a, ?_, h1, fun _ _ => rfl⟩
  show s4_d (s4_aside (s4_doing m dg) a) (rst a d) = _
  refine congrArg (s4_d (s4_aside (s4_doing m dg) a)) (funext fun j => ?_)
  unfold rst
  by_cases c : j < 67
  · rw [if_pos c, h1 j c]
  · rw [if_neg c, h2 j (by omega)]
theorem Lm_rel {n : NS} {m m' : MS} (h : Rel n m) (hl : Lm m m' (g4_d m)) : Rel n m' := by
  obtain ⟨dg, a, rfl, -, -⟩ := hl
  exact h
theorem Lm_upd {m ml : MS} {d : FI} (h : Lm m ml d) {k : Nat} (hk : k < 67) (v : Int32) : Lm m (s4_d ml (upd d k v)) (upd d k v) := by
  obtain ⟨dg, a, rfl, h1, h2⟩ := h
  refine ⟨dg, a, rfl, h1, fun j hj => ?_⟩
  rw [upd_n (by omega)]
  exact h2 j hj
theorem Lm_step {m ml : MS} {d : FI} {N M : Nat} (h : Lm m ml d) (hI : HI N M d) : ∃ m', f_X4_momentGoes ml = some m' ∧ Lm m m' (stepD d N M) := by
  have hd := Lm_d h
  obtain ⟨dg2, e⟩ := momentGoes_e (m := ml) (N := N) (M := M) (by rw [hd]; exact hI)
  rw [hd] at e
  obtain ⟨dg, a, rfl, h1, h2⟩ := h
  exact ⟨_, e, dg2, a, rfl, h1, fun j hj => (st_67 hI.2.1 hj).trans (h2 j hj)⟩
theorem Lm_go_l {m : MS} {N K : Nat} (hK : K < 1000) : ∀ (j P r M : Nat) (ml : MS) (d : FI), P + j = K → Lm m ml d → HI N M d → ∃ m', lp_X4_momentsGo_2 (nI K) (r + j) (nI P) ml = lp_X4_momentsGo_2 (nI K) r (nI K) m' ∧ Lm m m' (itD N j M d) := by
  intro j
  induction j with
  | zero => intro P r M ml d hP hL hI; exact ⟨ml, by rw [show P = K by omega]; rfl, hL⟩
  | succ j ih =>
    intro P r M ml d hP hL hI
    obtain ⟨m1, e1, hL1⟩ := Lm_step hL hI
    obtain ⟨m2, e2, hL2⟩ := ih (P + 1) r (nxM M) m1 _ (by omega) hL1 (HI_step hI)
    refine ⟨m2, ?_, hL2⟩
    rw [show r + (j + 1) = (r + j) + 1 by omega, lp_X4_momentsGo_2, if_neg (nle (by omega) (by omega) (by omega)), e1, bd1_e, nI_1]
    exact e2
theorem Lm_go {m ml : MS} {d : FI} {N M K : Nat} (hK : K < 1000) (h : Lm m ml d) (hI : HI N M d) : ∃ m', f_X4_momentsGo ml (nI K) = some m' ∧ Lm m m' (itD N K M d) := by
  unfold f_X4_momentsGo
  obtain ⟨r, e⟩ := FU_s K (by omega)
  obtain ⟨m', e1, hL'⟩ := Lm_go_l hK K 0 (r + 1) M ml d (by omega) h hI
  refine ⟨m', ?_, hL'⟩
  rw [e]
  refine Eq.trans e1 ?_
  rw [lp_X4_momentsGo_2, if_pos (nI_le (Nat.le_refl K) (by omega))]
theorem houseBehind_e {m ml : MS} {d : FI} {N M K : Nat} (hK : K < 1000) (h : Lm m ml d) (hI : HI N M d) : ∃ m', f_X4_houseBehind ml (nI K) = some (hsN (itD N K M d) N, m') ∧ Lm m m' (g4_d m) := by
  obtain ⟨m1, e1, hL1⟩ := Lm_go hK h hI
  obtain ⟨m2, e2, hL2⟩ := Lm_back hL1
  refine ⟨m2, ?_, hL2⟩
  have hI1 : HI N (itM K M) (g4_d m1) := by rw [Lm_d hL1]; exact it_hi K M d hI
  unfold f_X4_houseBehind
  rw [e1, bd1_e, sumN_e hI1, bd1_e, e2, bd1_e, Lm_d hL1]
theorem behind_e {m ml : MS} {d : FI} {N M K w : Nat} (hK : K < 1000) (hw : w < 67) (h : Lm m ml d) (hI : HI N M d) : ∃ m', f_X4_behind ml (nI K) (nI w) = some (itD N K M d w, m') ∧ Lm m m' (g4_d m) := by
  obtain ⟨m1, e1, hL1⟩ := Lm_go hK h hI
  obtain ⟨m2, e2, hL2⟩ := Lm_back hL1
  refine ⟨m2, ?_, hL2⟩
  unfold f_X4_behind
  rw [e1, bd1_e, gd_nI hw (by omega), e2, bd1_e, nI_clamp (by omega), Lm_d hL1]
theorem isAhead_e (x : Int32) : f_X4_isAhead x = some (rng x 0 400) := by unfold f_X4_isAhead; rw [in_0_400, bd1_e]
theorem isShort_e (x : Int32) : f_X4_isShort x = some (rng x 1 100) := by unfold f_X4_isShort; rw [in_1_100, bd1_e]
theorem Rel_t {n : NS} {m : MS} (h : Rel n m) (t : HS) : Rel (s3_trial n t) m := h
theorem op_note {n : NS} {m : MS} (h : Rel n m) (p1 p2 : Int32) : Op2 (f_X3_note n p1 p2) (f_X4_note m p1 p2) := by
  obtain ⟨N, M, hI, hR⟩ := h.1
  have hN := hI.2.1
  unfold f_X3_note f_X4_note
  simp only [isThere_e (hR.1.trans hI.1), isPerson_e hI, isIn_e, isAhead_e, bd1_e, bI_0]
  rcases pin_c hN p1 with c1 | ⟨j, hj, rfl, c1⟩
  · simp only [c1, if_true, if_false, reduceCtorEq, bd1_e, bd2_e, jn1_e, bI_0]; exact op_f0 h
  have h8 : j < 8 := by omega
  cases c2 : rng p2 0 400
  · simp only [c1, if_true, if_false, reduceCtorEq, bd1_e, bd2_e, jn1_e, bI_0]; exact op_f0 h
  · obtain ⟨K, hK, rfl⟩ := rng_nat (n := 400) (by decide) c2
    obtain ⟨t, et, hT⟩ := trial_e hI hR
    obtain ⟨t2, et2, hT2⟩ := goOn_e (K := K) (by omega) hI hT
    obtain ⟨m1, em1, hL1⟩ := Lm_start m
    obtain ⟨m2, em2, hL2⟩ := behind_e (K := K) (w := 35 + 4 * j + 2) (by omega) (by omega) hL1 hI
    have et2' : f_X0_goOn (g3_trial (s3_trial n t)) (nI K) = some t2 := et2
    simp only [c1, if_true, if_false, reduceCtorEq, bd1_e, bd2_e, jn1_e, bI_0, et, et2', em1, f_X4_whereNote, show ((35 : Int32) + 4 * nI j) + 2 = nI (35 + 4 * j + 2) from ix_its j 2, em2, gd_nI h8 (show (8 : Nat) < 2 ^ 31 by omega), nI_clamp (show j < 2 ^ 31 by omega)]
    exact ⟨_, _, _, rfl, congrArg (fun x => some (x, m2)) (hT2.2.2.2.2.2 j hj).2.2.1.symm, Rel_t (Lm_rel h hL2) _⟩
theorem op_on {n : NS} {m : MS} (h : Rel n m) (p1 p2 p3 : Int32) : Op2 (f_X3_on n p1 p2 p3) (f_X4_on m p1 p2 p3) := by
  obtain ⟨N, M, hI, hR⟩ := h.1
  have hN := hI.2.1
  unfold f_X3_on f_X4_on
  simp only [isThere_e (hR.1.trans hI.1), isPerson_e hI, isIn_e, isAhead_e, in_0_1, bd1_e, bI_0]
  rcases pin_c hN p1 with c1 | ⟨j, hj, rfl, c1⟩
  · simp only [c1, if_true, if_false, reduceCtorEq, bd1_e, bd2_e, jn1_e, bI_0]; exact op_f0 h
  have h8 : j < 8 := by omega
  cases c2 : rng p2 0 400
  · simp only [c1, if_true, if_false, reduceCtorEq, bd1_e, bd2_e, jn1_e, bI_0]; exact op_f0 h
  cases c3 : rng p3 0 1
  · simp only [c1, if_true, if_false, reduceCtorEq, bd1_e, bd2_e, jn1_e, bI_0]; exact op_f0 h
  obtain ⟨K, hK, rfl⟩ := rng_nat (n := 400) (by decide) c2
  obtain ⟨t, et, hT⟩ := trial_e hI hR
  obtain ⟨t2, et2, hT2⟩ := goOn_e (K := K) (by omega) hI hT
  obtain ⟨m1, em1, hL1⟩ := Lm_start m
  have et2' : f_X0_goOn (g3_trial (s3_trial n t)) (nI K) = some t2 := et2
  by_cases c4 : p3 = 0
  · obtain ⟨m2, em2, hL2⟩ := behind_e (K := K) (w := 35 + 4 * j + 1) (by omega) (by omega) hL1 hI
    simp only [c1, c4, if_true, if_false, reduceCtorEq, bd1_e, bd2_e, jn1_e, bI_0, et, et2', em1, show ((35 : Int32) + 4 * nI j) + 1 = nI (35 + 4 * j + 1) from ix_its j 1, em2, gd_nI h8 (show (8 : Nat) < 2 ^ 31 by omega), nI_clamp (show j < 2 ^ 31 by omega)]
    exact ⟨_, _, _, rfl, congrArg (fun x => some (x, m2)) (hT2.2.2.2.2.2 j hj).2.1.symm, Rel_t (Lm_rel h hL2) _⟩
  · obtain ⟨m2, em2, hL2⟩ := behind_e (K := K) (w := 35 + 4 * j + 3) (by omega) (by omega) hL1 hI
    simp only [c1, c4, if_true, if_false, reduceCtorEq, bd1_e, bd2_e, jn1_e, bI_0, et, et2', em1, show ((35 : Int32) + 4 * nI j) + 3 = nI (35 + 4 * j + 3) from ix_its j 3, em2, gd_nI h8 (show (8 : Nat) < 2 ^ 31 by omega), nI_clamp (show j < 2 ^ 31 by omega)]
    exact ⟨_, _, _, rfl, congrArg (fun x => some (x, m2)) (hT2.2.2.2.2.2 j hj).2.2.2.symm, Rel_t (Lm_rel h hL2) _⟩
theorem op_house {n : NS} {m : MS} (h : Rel n m) (p1 : Int32) : Op2 (f_X3_house n p1) (f_X4_house m p1) := by
  obtain ⟨N, M, hI, hR⟩ := h.1
  unfold f_X3_house f_X4_house
  simp only [isIn_e, isAhead_e, bd1_e, bI_0]
  cases c2 : rng p1 0 400
  · simp only [if_true, if_false, reduceCtorEq, bd1_e, bd2_e, jn1_e, bI_0]; exact op_f0 h
  · obtain ⟨K, hK, rfl⟩ := rng_nat (n := 400) (by decide) c2
    obtain ⟨t, et, hT⟩ := trial_e hI hR
    obtain ⟨t2, et2, hT2⟩ := allNotesOn_e (K := K) (by omega) hI hT
    obtain ⟨m1, em1, hL1⟩ := Lm_start m
    obtain ⟨m2, em2, hL2⟩ := houseBehind_e (K := K) (by omega) hL1 hI
    have et2' : f_X0_allNotesOn (g3_trial (s3_trial n t)) (nI K) = some (hsN (itD N K M (g4_d m)) N, t2) := et2
    simp only [if_true, if_false, reduceCtorEq, bd1_e, bd2_e, jn1_e, bI_0, et, et2', em1, em2]
    exact ⟨_, _, _, rfl, rfl, Rel_t (Lm_rel h hL2) _⟩
theorem op_heard {n : NS} {m : MS} (h : Rel n m) (p1 p2 : Int32) : Op2 (f_X3_heard n p1 p2) (f_X4_heard m p1 p2) := by
  obtain ⟨N, M, hI, hR⟩ := h.1
  unfold f_X3_heard f_X4_heard
  simp only [isIn_e, in_1_400, isDone_e, bd1_e, bI_0]
  cases c2 : rng p1 1 400
  · simp only [if_true, if_false, reduceCtorEq, bd1_e, bd2_e, jn1_e, bI_0]; exact op_f0 h
  cases c3 : rng p2 0 4
  · simp only [if_true, if_false, reduceCtorEq, bd1_e, bd2_e, jn1_e, bI_0]; exact op_f0 h
  obtain ⟨K, hK, hK1, rfl⟩ := rng_nat1 (n := 400) (by decide) (by decide) c2
  have e1 : (1 : Int32).toInt = 1 := rfl
  obtain ⟨J, rfl⟩ : ∃ J, K = J + 1 := ⟨K - 1, by omega⟩
  obtain ⟨t, et, hT⟩ := trial_e hI hR
  obtain ⟨t2, et2, hT2⟩ := goOn_e (K := J) (by omega) hI hT
  obtain ⟨m1, em1, hL1⟩ := Lm_start m
  obtain ⟨m2, em2, hL2⟩ := Lm_go (K := J) (by omega) hL1 hI
  obtain ⟨m3, em3, hL3⟩ := Lm_back hL2
  have hI2 := it_hi J M _ hI
  have hI3 : HI N (itM J M) (g4_d m2) := by rw [Lm_d hL2]; exact hI2
  have et2' : f_X0_goOn (g3_trial (s3_trial n t)) (nI J) = some t2 := et2
  have et3 : f_X0_howManyDo (g3_trial (s3_trial (s3_trial n t) t2)) p2 = _ := many_e p2 hI2 hT2
  simp only [if_true, if_false, reduceCtorEq, bd1_e, bd2_e, jn1_e, bI_0, nI_pred, et, et2', em1, em2, em3, et3, doers_e _ _ hI3, Lm_d hL2]
  exact ⟨_, _, _, rfl, rfl, Rel_t (Lm_rel h hL3) _⟩
