/-! PURE 2: a moment goes -/
def st2 (P N : Nat) (q : Int32) (g : Nat → Int32) (d : FI) : FI := fun j =>
  if 35 ≤ j ∧ P ≤ (j - 35) / 4 ∧ (j - 35) / 4 < N then (if (j - 35) % 4 = 2 then hld (d j + sco (d (j - 2)) (g ((j - 35) / 4)) q) (-9999) 9999 else if (j - 35) % 4 = 3 then g ((j - 35) / 4) else d j) else d j
def st3 (P N : Nat) (d : FI) : FI := fun j =>
  if 35 ≤ j ∧ P ≤ (j - 35) / 4 ∧ (j - 35) / 4 < N then (if (j - 35) % 4 = 1 then hld (d j - stl (d (j - 1))) 0 99 else if (j - 35) % 4 = 3 then 0 else d j) else d j
theorem st2_lo {P N : Nat} {q : Int32} {g : Nat → Int32} {d : FI} {j : Nat} (h : j < 35) : st2 P N q g d j = d j := if_neg (by omega)
theorem st3_lo {P N : Nat} {d : FI} {j : Nat} (h : j < 35) : st3 P N d j = d j := if_neg (by omega)
theorem dv (p w : Nat) (hw : w < 4) : (35 + 4 * p + w - 35) / 4 = p ∧ (35 + 4 * p + w - 35) % 4 = w := by omega
theorem dv0 (p : Nat) : (35 + 4 * p - 35) / 4 = p ∧ (35 + 4 * p - 35) % 4 = 0 := by omega
theorem st2_0 {N : Nat} {q : Int32} {g : Nat → Int32} {d : FI} {p : Nat} (h : p < N) : st2 0 N q g d (35 + 4 * p) = d (35 + 4 * p) := by
  unfold st2
  rw [if_pos (by omega), if_neg (by omega), if_neg (by omega)]
theorem st2_1 {N : Nat} {q : Int32} {g : Nat → Int32} {d : FI} {p : Nat} (h : p < N) : st2 0 N q g d (35 + 4 * p + 1) = d (35 + 4 * p + 1) := by
  unfold st2
  rw [if_pos (by omega), if_neg (by omega), if_neg (by omega)]
theorem st2_2 {N : Nat} {q : Int32} {g : Nat → Int32} {d : FI} {p : Nat} (h : p < N) : st2 0 N q g d (35 + 4 * p + 2) = hld (d (35 + 4 * p + 2) + sco (d (35 + 4 * p)) (g p) q) (-9999) 9999 := by
  unfold st2
  rw [if_pos (by omega), if_pos (by omega), (dv p 2 (by decide)).1, show 35 + 4 * p + 2 - 2 = 35 + 4 * p by omega]
theorem st2_3 {N : Nat} {q : Int32} {g : Nat → Int32} {d : FI} {p : Nat} (h : p < N) : st2 0 N q g d (35 + 4 * p + 3) = g p := by
  unfold st2
  rw [if_pos (by omega), if_neg (by omega), if_pos (by omega), (dv p 3 (by decide)).1]
theorem st3_0 {N : Nat} {d : FI} {p : Nat} (h : p < N) : st3 0 N d (35 + 4 * p) = d (35 + 4 * p) := by
  unfold st3
  rw [if_pos (by omega), if_neg (by omega), if_neg (by omega)]
theorem st3_1 {N : Nat} {d : FI} {p : Nat} (h : p < N) : st3 0 N d (35 + 4 * p + 1) = hld (d (35 + 4 * p + 1) - stl (d (35 + 4 * p))) 0 99 := by
  unfold st3
  rw [if_pos (by omega), if_pos (by omega), show 35 + 4 * p + 1 - 1 = 35 + 4 * p by omega]
theorem st3_2 {N : Nat} {d : FI} {p : Nat} (h : p < N) : st3 0 N d (35 + 4 * p + 2) = d (35 + 4 * p + 2) := by
  unfold st3
  rw [if_pos (by omega), if_neg (by omega), if_neg (by omega)]
theorem st3_3 {N : Nat} {d : FI} {p : Nat} (h : p < N) : st3 0 N d (35 + 4 * p + 3) = 0 := by
  unfold st3
  rw [if_pos (by omega), if_neg (by omega), if_pos (by omega)]
theorem st2_step {P N : Nat} (hP : P < N) (q : Int32) (g : Nat → Int32) (d : FI) : st2 (P + 1) N q g (upd (upd d (35 + 4 * P + 2) (hld (d (35 + 4 * P + 2) + sco (d (35 + 4 * P)) (g P) q) (-9999) 9999)) (35 + 4 * P + 3) (g P)) = st2 P N q g d := by
  funext j
  unfold st2
  by_cases h1 : j = 35 + 4 * P + 2
  · subst h1
    rw [if_neg (by omega), if_pos (by omega), if_pos (by omega), upd_e, if_neg (by omega), upd_e, if_pos rfl, (dv P 2 (by decide)).1, show 35 + 4 * P + 2 - 2 = 35 + 4 * P by omega]
  · by_cases h2 : j = 35 + 4 * P + 3
    · subst h2
      rw [if_neg (by omega), if_pos (by omega), if_neg (by omega), if_pos (by omega), upd_e, if_pos rfl, (dv P 3 (by decide)).1]
    · have e : ∀ k, k ≠ 35 + 4 * P + 2 → k ≠ 35 + 4 * P + 3 → upd (upd d (35 + 4 * P + 2) (hld (d (35 + 4 * P + 2) + sco (d (35 + 4 * P)) (g P) q) (-9999) 9999)) (35 + 4 * P + 3) (g P) k = d k := by
        intro k a b
        rw [upd_e, if_neg b, upd_e, if_neg a]
      rw [e j h1 h2]
      by_cases h3 : 35 ≤ j ∧ P + 1 ≤ (j - 35) / 4 ∧ (j - 35) / 4 < N
      · have h3' : 35 ≤ j ∧ P ≤ (j - 35) / 4 ∧ (j - 35) / 4 < N := by omega
        rw [if_pos h3, if_pos h3']
        by_cases h4 : (j - 35) % 4 = 2
        · rw [if_pos h4, if_pos h4, e (j - 2) (by omega) (by omega)]
        · rw [if_neg h4, if_neg h4]
      · rw [if_neg h3]
        by_cases h5 : 35 ≤ j ∧ P ≤ (j - 35) / 4 ∧ (j - 35) / 4 < N
        · rw [if_pos h5, if_neg (by omega), if_neg (by omega)]
        · rw [if_neg h5]
theorem st3_step {P N : Nat} (hP : P < N) (d : FI) : st3 (P + 1) N (upd (upd d (35 + 4 * P + 1) (hld (d (35 + 4 * P + 1) - stl (d (35 + 4 * P))) 0 99)) (35 + 4 * P + 3) 0) = st3 P N d := by
  funext j
  unfold st3
  by_cases h1 : j = 35 + 4 * P + 1
  · subst h1
    rw [if_neg (by omega), if_pos (by omega), if_pos (by omega), upd_e, if_neg (by omega), upd_e, if_pos rfl, show 35 + 4 * P + 1 - 1 = 35 + 4 * P by omega]
  · by_cases h2 : j = 35 + 4 * P + 3
    · subst h2
      rw [if_neg (by omega), if_pos (by omega), if_neg (by omega), if_pos (by omega), upd_e, if_pos rfl]
    · have e : ∀ k, k ≠ 35 + 4 * P + 1 → k ≠ 35 + 4 * P + 3 → upd (upd d (35 + 4 * P + 1) (hld (d (35 + 4 * P + 1) - stl (d (35 + 4 * P))) 0 99)) (35 + 4 * P + 3) 0 k = d k := by
        intro k a b
        rw [upd_e, if_neg b, upd_e, if_neg a]
      rw [e j h1 h2]
      by_cases h3 : 35 ≤ j ∧ P + 1 ≤ (j - 35) / 4 ∧ (j - 35) / 4 < N
      · have h3' : 35 ≤ j ∧ P ≤ (j - 35) / 4 ∧ (j - 35) / 4 < N := by omega
        rw [if_pos h3, if_pos h3']
        by_cases h4 : (j - 35) % 4 = 1
        · rw [if_pos h4, if_pos h4, e (j - 1) (by omega) (by omega)]
        · rw [if_neg h4, if_neg h4]
      · rw [if_neg h3]
        by_cases h5 : 35 ≤ j ∧ P ≤ (j - 35) / 4 ∧ (j - 35) / 4 < N
        · rw [if_pos h5, if_neg (by omega), if_neg (by omega)]
        · rw [if_neg h5]
theorem st2_end (N : Nat) (q : Int32) (g : Nat → Int32) (d : FI) : st2 N N q g d = d := funext fun j => if_neg (by omega)
theorem st3_end (N : Nat) (d : FI) : st3 N N d = d := funext fun j => if_neg (by omega)
theorem nle {a b : Nat} (ha : a < 2 ^ 31) (hb : b < 2 ^ 31) (h : a < b) : ¬ nI b ≤ nI a := by rw [nI_leI hb ha]; omega
theorem g4d_s (m : MS) (x : FI) : g4_d (s4_d m x) = x := rfl
theorem g4d_g (m : MS) (x : FI) : g4_d (s4_doing m x) = g4_d m := rfl
/-- the reference's three loops -/
theorem go16 {N M : Nat} {q : Int32} : ∀ (j P r : Nat) (m : MS), P + j = N → HI N M (g4_d m) → lp_X4_momentGoes_16 (r + j) (nI P) q m = lp_X4_momentGoes_16 r (nI N) q (s4_doing m (fun i => if P ≤ i ∧ i < N then deed (g4_d m) N M i else g4_doing m i)) := by
  intro j
  induction j with
  | zero =>
    intro P r m hP hI
    have e : (fun i => if P ≤ i ∧ i < N then deed (g4_d m) N M i else g4_doing m i) = g4_doing m := funext fun i => if_neg (by omega)
    rw [e, show P = N by omega]
    rfl
  | succ j ih =>
    intro P r m hP hI
    have hN := hI.2.1
    rw [show r + (j + 1) = (r + j) + 1 by omega, lp_X4_momentGoes_16, gd0, cl0, hI.1, if_neg (nle (by omega) (by omega) (by omega)), doesNow_e hI (by omega), bd1_e, gd_nI (by omega) (by omega), nI_clamp (by omega), jn1_e, nI_1]
    refine (ih (P + 1) r _ (by omega) ?_).trans ?_
    · exact hI
    congr 1
    refine congrArg (s4_doing m) (funext fun i => ?_)
    show (if P + 1 ≤ i ∧ i < N then deed (g4_d m) N M i else upd (g4_doing m) P (deed (g4_d m) N M P) i) = _
    rw [upd_e]
    by_cases h : i = P
    · subst h
      rw [if_neg (by omega), if_pos rfl, if_pos (by omega)]
    · rw [if_neg h]
      by_cases h2 : P + 1 ≤ i ∧ i < N
      · rw [if_pos h2, if_pos (by omega)]
      · rw [if_neg h2, if_neg (by omega)]
theorem go45 {N : Nat} (hN : N ≤ 8) {q : Int32} {g : Nat → Int32} : ∀ (j P r : Nat) (m : MS), P + j = N → g4_d m 0 = nI N → (∀ p, p < N → g4_doing m p = g p) → lp_X4_momentGoes_45 q (r + j) (nI P) m = lp_X4_momentGoes_45 q r (nI N) (s4_d m (st2 P N q g (g4_d m))) := by
  intro j
  induction j with
  | zero =>
    intro P r m hP h0 hg
    rw [show P = N by omega, st2_end]
    rfl
  | succ j ih =>
    intro P r m hP h0 hg
    have e8 : P < 8 := by omega
    have hgP := hg P (by omega)
    rw [show r + (j + 1) = (r + j) + 1 by omega, lp_X4_momentGoes_45, gd0, cl0, h0, if_neg (nle (by omega) (by omega) (by omega)), its2 e8, bd1_e, gd_nI e8 (by omega), nI_clamp (by omega), scoresFor_e e8, bd1_e, held4_e, bd1_e, sets2 e8, bd1_e, gd_nI e8 (by omega), sets3 e8, bd1_e, nI_1]
    refine (ih (P + 1) r _ (by omega) ?_ ?_).trans ?_
    · rw [g4d_s, upd_e, if_neg (by omega), g4d_s, upd_e, if_neg (by omega)]
      exact h0
    · exact hg
    · congr 1
      refine congrArg (s4_d m) ?_
      refine Eq.trans ?_ (st2_step (by omega : P < N) q g (g4_d m))
      rw [← hgP]
      rfl
theorem go135 {N : Nat} (hN : N ≤ 8) : ∀ (j P r : Nat) (m : MS), P + j = N → g4_d m 0 = nI N → lp_X4_momentGoes_135 (r + j) (nI P) m = lp_X4_momentGoes_135 r (nI N) (s4_d m (st3 P N (g4_d m))) := by
  intro j
  induction j with
  | zero =>
    intro P r m hP h0
    rw [show P = N by omega, st3_end]
    rfl
  | succ j ih =>
    intro P r m hP h0
    have e8 : P < 8 := by omega
    rw [show r + (j + 1) = (r + j) + 1 by omega, lp_X4_momentGoes_135, gd0, cl0, h0, if_neg (nle (by omega) (by omega) (by omega)), its1 e8, bd1_e, stales_e e8, bd1_e, held4_e, bd1_e, sets1 e8, bd1_e, sets3 e8, bd1_e, nI_1]
    refine (ih (P + 1) r _ (by omega) ?_).trans ?_
    · rw [g4d_s, upd_e, if_neg (by omega), g4d_s, upd_e, if_neg (by omega)]
      exact h0
    · congr 1
      refine congrArg (s4_d m) ?_
      exact st3_step (by omega : P < N) (g4_d m)
/-- the row behind a moment -/
def stepD (d : FI) (N M : Nat) : FI :=
  if M + 1 = 16 then upd (st3 0 N (upd (st2 0 N (d (3 + M)) (deed d N M) d) 2 (nI 0))) 1 (d 1 + 1) else upd (st2 0 N (d (3 + M)) (deed d N M) d) 2 (nI (M + 1))
theorem momentGoes_e {m : MS} {N M : Nat} (hI : HI N M (g4_d m)) : ∃ dg, f_X4_momentGoes m = some (s4_d (s4_doing m dg) (stepD (g4_d m) N M)) := by
  have hN := hI.2.1
  have hM := hI.2.2.2.1
  refine ⟨fun i => if 0 ≤ i ∧ i < N then deed (g4_d m) N M i else g4_doing m i, ?_⟩
  unfold f_X4_momentGoes
  obtain ⟨r1, e1⟩ := FU_s N (by omega)
  rw [gd2, cl2, hI.2.2.1, gdc hM, clc hM, ← nI_0]
  have e16 := go16 (q := g4_d m (3 + M)) N 0 (r1 + 1) m (by omega) hI
  rw [← e1] at e16
  rw [e16, lp_X4_momentGoes_16, gd0, cl0]
  have h0 : g4_d (s4_doing m (fun i => if 0 ≤ i ∧ i < N then deed (g4_d m) N M i else g4_doing m i)) 0 = nI N := hI.1
  rw [h0, if_pos (nI_le (Nat.le_refl N) (by omega))]
  generalize hm2 : s4_doing m (fun i => if 0 ≤ i ∧ i < N then deed (g4_d m) N M i else g4_doing m i) = m2 at h0 ⊢
  have hd2 : g4_d m2 = g4_d m := by rw [← hm2]; rfl
  have e45 := go45 hN (q := g4_d m (3 + M)) (g := deed (g4_d m) N M) N 0 (r1 + 1) m2 (by omega) h0 (by
    intro p hp
    rw [← hm2]
    show (if 0 ≤ p ∧ p < N then deed (g4_d m) N M p else g4_doing m p) = _
    rw [if_pos (by omega)])
  rw [← e1] at e45
  rw [← nI_0, e45, lp_X4_momentGoes_45, gd0, cl0, hd2]
  have h02 : g4_d (s4_d m2 (st2 0 N (g4_d m (3 + M)) (deed (g4_d m) N M) (g4_d m))) 0 = nI N := by rw [g4d_s, st2_lo (by omega)]; exact hI.1
  have h22 : g4_d (s4_d m2 (st2 0 N (g4_d m (3 + M)) (deed (g4_d m) N M) (g4_d m))) 2 = nI M := by rw [g4d_s, st2_lo (by omega)]; exact hI.2.2.1
  have erem : (nI M + 1 : Int32) - (nI M + 1) / 16 * 16 = nI ((M + 1) % 16) := by
    rw [nI_1, show (16 : Int32) = nI 16 from rfl, pk_rem (by omega) (by omega) (by omega)]
  rw [h02, if_pos (nI_le (Nat.le_refl N) (by omega)), gd2, gd2, jn1_e, gd2, cl2, h22, erem]
  have hu : g4_d (s4_d (s4_d m2 (st2 0 N (g4_d m (3 + M)) (deed (g4_d m) N M) (g4_d m))) (upd (g4_d (s4_d m2 (st2 0 N (g4_d m (3 + M)) (deed (g4_d m) N M) (g4_d m)))) 2 (nI ((M + 1) % 16)))) 2 = nI ((M + 1) % 16) := by rw [g4d_s, upd_s]
  rw [hu]
  unfold stepD
  by_cases hc : M + 1 = 16
  · rw [if_pos hc, show (M + 1) % 16 = 0 by omega, if_pos nI_0]
    generalize hm3 : s4_d (s4_d m2 (st2 0 N (g4_d m (3 + M)) (deed (g4_d m) N M) (g4_d m))) (upd (g4_d (s4_d m2 (st2 0 N (g4_d m (3 + M)) (deed (g4_d m) N M) (g4_d m)))) 2 (nI 0)) = m3
    have hd3 : g4_d m3 = upd (st2 0 N (g4_d m (3 + M)) (deed (g4_d m) N M) (g4_d m)) 2 (nI 0) := by rw [← hm3]; rfl
    have h03 : g4_d m3 0 = nI N := by rw [hd3, upd_e, if_neg (by omega)]; exact h02
    have e135 := go135 hN N 0 (r1 + 1) m3 (by omega) h03
    rw [← e1, nI_0] at e135
    rw [e135, lp_X4_momentGoes_135, gd0, cl0]
    have h04 : g4_d (s4_d m3 (st3 0 N (g4_d m3))) 0 = nI N := by rw [g4d_s, st3_lo (by omega)]; exact h03
    have h14 : g4_d (s4_d m3 (st3 0 N (g4_d m3))) 1 = g4_d m 1 := by
      rw [g4d_s, st3_lo (by omega), hd3, upd_e, if_neg (by omega), st2_lo (by omega)]
    rw [h04, if_pos (nI_le (Nat.le_refl N) (by omega)), gd1, gd1, jn1_e, cl1, h14]
    refine congrArg some ?_
    rw [← hm3]
    rfl
  · rw [if_neg hc, show (M + 1) % 16 = M + 1 by omega, if_neg (nI_ne0 (by omega) (by omega))]
    refine congrArg some ?_
    rfl
/-- the class's loops -/
theorem go12 {d : FI} {N M : Nat} {q : Int32} (hI : HI N M d) : ∀ (j P r : Nat) (h : HS), P + j = N → RH N d h → lp_X0_go_12 (r + j) (nI P) q h = lp_X0_go_12 r (nI N) q (s0_deeds h (fun i => if P ≤ i ∧ i < N then deed d N M i else g0_deeds h i)) := by
  intro j
  induction j with
  | zero =>
    intro P r h hP hR
    have e : (fun i => if P ≤ i ∧ i < N then deed d N M i else g0_deeds h i) = g0_deeds h := funext fun i => if_neg (by omega)
    rw [e, show P = N by omega]
    rfl
  | succ j ih =>
    intro P r h hP hR
    have hN := hI.2.1
    have hp : g0_people h = nI N := hR.1.trans hI.1
    rw [show r + (j + 1) = (r + j) + 1 by omega, lp_X0_go_12, hp, if_neg (nle (by omega) (by omega) (by omega)), deedOf_e hI hR (by omega), bd1_e, gd_nI (by omega) (by omega), nI_clamp (by omega), jn1_e, nI_1]
    refine (ih (P + 1) r _ (by omega) ?_).trans ?_
    · exact hR
    congr 1
    refine congrArg (s0_deeds h) (funext fun i => ?_)
    show (if P + 1 ≤ i ∧ i < N then deed d N M i else upd (g0_deeds h) P (deed d N M P) i) = _
    rw [upd_e]
    by_cases h1 : i = P
    · subst h1
      rw [if_neg (by omega), if_pos rfl, if_pos (by omega)]
    · rw [if_neg h1]
      by_cases h2 : P + 1 ≤ i ∧ i < N
      · rw [if_pos h2, if_pos (by omega)]
      · rw [if_neg h2, if_neg (by omega)]
def ntH (P N : Nat) (q : Int32) (h : HS) : FI := fun i => if P ≤ i ∧ i < N then hld (g0_notes h i + sco (g0_kinds h i) (g0_deeds h i) q) (-9999) 9999 else g0_notes h i
def ddH (P N : Nat) (h : HS) : FI := fun i => if P ≤ i ∧ i < N then g0_deeds h i else g0_dids h i
theorem go39 {N : Nat} (hN : N ≤ 8) {q : Int32} : ∀ (j P r : Nat) (h : HS), P + j = N → g0_people h = nI N → lp_X0_go_39 q (r + j) (nI P) h = lp_X0_go_39 q r (nI N) (s0_dids (s0_notes h (ntH P N q h)) (ddH P N h)) := by
  intro j
  induction j with
  | zero =>
    intro P r h hP hp
    have e : ntH P N q h = g0_notes h := funext fun i => if_neg (by omega)
    have e2 : ddH P N h = g0_dids h := funext fun i => if_neg (by omega)
    rw [e, e2, show P = N by omega]
    rfl
  | succ j ih =>
    intro P r h hP hp
    have e8 : P < 8 := by omega
    rw [show r + (j + 1) = (r + j) + 1 by omega, lp_X0_go_39, hp, if_neg (nle (by omega) (by omega) (by omega))]
    simp only [gd_nI e8 (show (8 : Nat) < 2 ^ 31 by omega), nI_clamp (show P < 2 ^ 31 by omega), scoreFor3_e, bd1_e, held3_e (show (-9999 : Int32) ≤ 9999 by decide), jn1_e, nI_1]
    refine (ih (P + 1) r _ (by omega) ?_).trans ?_
    · exact hp
    congr 1
    have en : ntH (P + 1) N q (s0_dids (s0_notes h (upd (g0_notes h) P (hld (g0_notes h P + sco (g0_kinds h P) (g0_deeds h P) q) (-9999) 9999))) (upd (g0_dids h) P (g0_deeds h P))) = ntH P N q h := by
      funext i
      show (if P + 1 ≤ i ∧ i < N then hld (upd (g0_notes h) P (hld (g0_notes h P + sco (g0_kinds h P) (g0_deeds h P) q) (-9999) 9999) i + sco (g0_kinds h i) (g0_deeds h i) q) (-9999) 9999 else upd (g0_notes h) P (hld (g0_notes h P + sco (g0_kinds h P) (g0_deeds h P) q) (-9999) 9999) i) = ntH P N q h i
      unfold ntH
      rw [upd_e]
      by_cases h1 : i = P
      · subst h1
        rw [if_neg (by omega), if_pos rfl, if_pos (by omega)]
      · rw [if_neg h1]
        by_cases h2 : P + 1 ≤ i ∧ i < N
        · rw [if_pos h2, if_pos (by omega)]
        · rw [if_neg h2, if_neg (by omega)]
    have ed : ddH (P + 1) N (s0_dids (s0_notes h (upd (g0_notes h) P (hld (g0_notes h P + sco (g0_kinds h P) (g0_deeds h P) q) (-9999) 9999))) (upd (g0_dids h) P (g0_deeds h P))) = ddH P N h := by
      funext i
      show (if P + 1 ≤ i ∧ i < N then g0_deeds h i else upd (g0_dids h) P (g0_deeds h P) i) = ddH P N h i
      unfold ddH
      rw [upd_e]
      by_cases h1 : i = P
      · subst h1
        rw [if_neg (by omega), if_pos rfl, if_pos (by omega)]
      · rw [if_neg h1]
        by_cases h2 : P + 1 ≤ i ∧ i < N
        · rw [if_pos h2, if_pos (by omega)]
        · rw [if_neg h2, if_neg (by omega)]
    exact congr (congrArg (fun x y => s0_dids (s0_notes h x) y) en) ed
def frH (P N : Nat) (h : HS) : FI := fun i => if P ≤ i ∧ i < N then hld (g0_freshes h i - stl (g0_kinds h i)) 0 99 else g0_freshes h i
def d0H (P N : Nat) (h : HS) : FI := fun i => if P ≤ i ∧ i < N then 0 else g0_dids h i
theorem go17 {N : Nat} (hN : N ≤ 8) : ∀ (j P r : Nat) (h : HS), P + j = N → g0_people h = nI N → lp_X0_endNight_17 (r + j) (nI P) h = lp_X0_endNight_17 r (nI N) (s0_dids (s0_freshes h (frH P N h)) (d0H P N h)) := by
  intro j
  induction j with
  | zero =>
    intro P r h hP hp
    have e : frH P N h = g0_freshes h := funext fun i => if_neg (by omega)
    have e2 : d0H P N h = g0_dids h := funext fun i => if_neg (by omega)
    rw [e, e2, show P = N by omega]
    rfl
  | succ j ih =>
    intro P r h hP hp
    have e8 : P < 8 := by omega
    rw [show r + (j + 1) = (r + j) + 1 by omega, lp_X0_endNight_17, hp, if_neg (nle (by omega) (by omega) (by omega))]
    simp only [gd_nI e8 (show (8 : Nat) < 2 ^ 31 by omega), nI_clamp (show P < 2 ^ 31 by omega), staleness_e, bd1_e, held3_e (show (0 : Int32) ≤ 99 by decide), jn1_e, nI_1]
    refine (ih (P + 1) r _ (by omega) ?_).trans ?_
    · exact hp
    congr 1
    have en : frH (P + 1) N (s0_dids (s0_freshes h (upd (g0_freshes h) P (hld (g0_freshes h P - stl (g0_kinds h P)) 0 99))) (upd (g0_dids h) P 0)) = frH P N h := by
      funext i
      show (if P + 1 ≤ i ∧ i < N then hld (upd (g0_freshes h) P (hld (g0_freshes h P - stl (g0_kinds h P)) 0 99) i - stl (g0_kinds h i)) 0 99 else upd (g0_freshes h) P (hld (g0_freshes h P - stl (g0_kinds h P)) 0 99) i) = frH P N h i
      unfold frH
      rw [upd_e]
      by_cases h1 : i = P
      · subst h1
        rw [if_neg (by omega), if_pos rfl, if_pos (by omega)]
      · rw [if_neg h1]
        by_cases h2 : P + 1 ≤ i ∧ i < N
        · rw [if_pos h2, if_pos (by omega)]
        · rw [if_neg h2, if_neg (by omega)]
    have ed : d0H (P + 1) N (s0_dids (s0_freshes h (upd (g0_freshes h) P (hld (g0_freshes h P - stl (g0_kinds h P)) 0 99))) (upd (g0_dids h) P 0)) = d0H P N h := by
      funext i
      show (if P + 1 ≤ i ∧ i < N then 0 else upd (g0_dids h) P 0 i) = d0H P N h i
      unfold d0H
      rw [upd_e]
      by_cases h1 : i = P
      · subst h1
        rw [if_neg (by omega), if_pos rfl, if_pos (by omega)]
      · rw [if_neg h1]
        by_cases h2 : P + 1 ≤ i ∧ i < N
        · rw [if_pos h2, if_pos (by omega)]
        · rw [if_neg h2, if_neg (by omega)]
    exact congr (congrArg (fun x y => s0_dids (s0_freshes h x) y) en) ed
/-- the row behind a moment, place by place -/
theorem sD_lo {d : FI} {N M j : Nat} (h : j < 35) (h1 : j ≠ 1) (h2 : j ≠ 2) : stepD d N M j = d j := by
  unfold stepD
  by_cases hc : M + 1 = 16
  · rw [if_pos hc, upd_e, if_neg h1, st3_lo h, upd_e, if_neg h2, st2_lo h]
  · rw [if_neg hc, upd_e, if_neg h2, st2_lo h]
theorem sD_1 {d : FI} {N M : Nat} : stepD d N M 1 = if M + 1 = 16 then d 1 + 1 else d 1 := by
  unfold stepD
  by_cases hc : M + 1 = 16
  · rw [if_pos hc, upd_e, if_pos rfl, if_pos hc]
  · rw [if_neg hc, upd_e, if_neg (by omega), st2_lo (by omega), if_neg hc]
theorem sD_2 {d : FI} {N M : Nat} : stepD d N M 2 = if M + 1 = 16 then nI 0 else nI (M + 1) := by
  unfold stepD
  by_cases hc : M + 1 = 16
  · rw [if_pos hc, upd_e, if_neg (by omega), st3_lo (by omega), upd_e, if_pos rfl, if_pos hc]
  · rw [if_neg hc, upd_e, if_pos rfl, if_neg hc]
theorem sD_k {d : FI} {N M p : Nat} (hp : p < N) : stepD d N M (35 + 4 * p) = d (35 + 4 * p) := by
  unfold stepD
  by_cases hc : M + 1 = 16
  · rw [if_pos hc, upd_e, if_neg (by omega), st3_0 hp, upd_e, if_neg (by omega), st2_0 hp]
  · rw [if_neg hc, upd_e, if_neg (by omega), st2_0 hp]
theorem sD_f {d : FI} {N M p : Nat} (hp : p < N) : stepD d N M (35 + 4 * p + 1) = if M + 1 = 16 then hld (d (35 + 4 * p + 1) - stl (d (35 + 4 * p))) 0 99 else d (35 + 4 * p + 1) := by
  unfold stepD
  by_cases hc : M + 1 = 16
  · rw [if_pos hc, upd_e, if_neg (by omega), st3_1 hp, upd_e, if_neg (by omega), st2_1 hp, upd_e, if_neg (by omega), st2_0 hp, if_pos hc]
  · rw [if_neg hc, upd_e, if_neg (by omega), st2_1 hp, if_neg hc]
theorem sD_n {d : FI} {N M p : Nat} (hp : p < N) : stepD d N M (35 + 4 * p + 2) = hld (d (35 + 4 * p + 2) + sco (d (35 + 4 * p)) (deed d N M p) (d (3 + M))) (-9999) 9999 := by
  unfold stepD
  by_cases hc : M + 1 = 16
  · rw [if_pos hc, upd_e, if_neg (by omega), st3_2 hp, upd_e, if_neg (by omega), st2_2 hp]
  · rw [if_neg hc, upd_e, if_neg (by omega), st2_2 hp]
theorem sD_d {d : FI} {N M p : Nat} (hp : p < N) : stepD d N M (35 + 4 * p + 3) = if M + 1 = 16 then 0 else deed d N M p := by
  unfold stepD
  by_cases hc : M + 1 = 16
  · rw [if_pos hc, upd_e, if_neg (by omega), st3_3 hp, if_pos hc]
  · rw [if_neg hc, upd_e, if_neg (by omega), st2_3 hp, if_neg hc]
theorem hld_r (v : Int32) : -9999 ≤ (hld v (-9999) 9999).toInt ∧ (hld v (-9999) 9999).toInt ≤ 9999 := by
  have a : (-9999 : Int32).toInt = -9999 := by decide
  have b : (9999 : Int32).toInt = 9999 := by decide
  unfold hld
  by_cases h1 : (-9999 : Int32) ≤ v
  · rw [if_pos h1]
    rw [i32_le] at h1
    by_cases h2 : v ≤ (9999 : Int32)
    · rw [if_pos h2]
      rw [i32_le] at h2
      omega
    · rw [if_neg h2]; omega
  · rw [if_neg h1]; omega
/-- the moment behind this one -/
def nxM (M : Nat) : Nat := if M + 1 = 16 then 0 else M + 1
theorem HI_step {d : FI} {N M : Nat} (hI : HI N M d) : HI N (nxM M) (stepD d N M) := by
  obtain ⟨h0, hN, h2, hM, hp⟩ := hI
  refine ⟨(sD_lo (by omega) (by omega) (by omega)).trans h0, hN, ?_, ?_, fun p h => ⟨?_, ?_⟩⟩
  · rw [sD_2]
    unfold nxM
    by_cases hc : M + 1 = 16 <;> simp [hc]
  · unfold nxM
    split <;> omega
  · rw [sD_k h]
    exact (hp p h).1
  · rw [sD_n h]
    exact hld_r _
theorem go_e {d : FI} {h : HS} {N M : Nat} (hI : HI N M d) (hR : RH N d h) : ∃ h', f_X0_go h = some h' ∧ RH N (stepD d N M) h' := by
  have hN := hI.2.1
  have hM := hI.2.2.2.1
  have hm : g0_moment h = nI M := hR.2.2.1.trans hI.2.2.1
  have hp : g0_people h = nI N := hR.1.trans hI.1
  obtain ⟨r1, e1⟩ := FU_s N (by omega)
  unfold f_X0_go
  rw [hm, gd_nI hM (by omega), nI_clamp (by omega), hR.2.2.2.1 M hM, ← nI_0]
  have e12 := go12 (q := d (3 + M)) hI N 0 (r1 + 1) h (by omega) hR
  rw [← e1] at e12
  rw [e12, lp_X0_go_12]
  have hp1 : g0_people (s0_deeds h (fun i => if 0 ≤ i ∧ i < N then deed d N M i else g0_deeds h i)) = nI N := hp
  rw [hp1, if_pos (nI_le (Nat.le_refl N) (by omega))]
  have hdd : ∀ p, p < N → g0_deeds (s0_deeds h (fun i => if 0 ≤ i ∧ i < N then deed d N M i else g0_deeds h i)) p = deed d N M p := fun p h => if_pos ⟨Nat.zero_le p, h⟩
  have hR1 : RH N d (s0_deeds h (fun i => if 0 ≤ i ∧ i < N then deed d N M i else g0_deeds h i)) := hR
  generalize s0_deeds h (fun i => if 0 ≤ i ∧ i < N then deed d N M i else g0_deeds h i) = h1 at hp1 hdd hR1 ⊢
  have e39 := go39 hN (q := d (3 + M)) N 0 (r1 + 1) h1 (by omega) hp1
  rw [← e1, nI_0] at e39
  rw [e39, lp_X0_go_39]
  have hp2 : g0_people (s0_dids (s0_notes h1 (ntH 0 N (d (3 + M)) h1)) (ddH 0 N h1)) = nI N := hp1
  rw [hp2, if_pos (nI_le (Nat.le_refl N) (by omega)), jn1_e]
  have hm1 : g0_moment h1 = nI M := hR1.2.2.1.trans hI.2.2.1
  have hm2 : g0_moment (s0_moment (s0_dids (s0_notes h1 (ntH 0 N (d (3 + M)) h1)) (ddH 0 N h1)) (g0_moment (s0_dids (s0_notes h1 (ntH 0 N (d (3 + M)) h1)) (ddH 0 N h1)) + 1)) = nI (M + 1) := by
    show g0_moment h1 + 1 = nI (M + 1)
    rw [hm1, nI_1]
  have hnt : ∀ p, p < N → ntH 0 N (d (3 + M)) h1 p = hld (d (35 + 4 * p + 2) + sco (d (35 + 4 * p)) (deed d N M p) (d (3 + M))) (-9999) 9999 := by
    intro p h
    unfold ntH
    rw [if_pos ⟨Nat.zero_le p, h⟩, hdd p h, (hR1.2.2.2.2.2 p h).1, (hR1.2.2.2.2.2 p h).2.2.1]
  have hdn : ∀ p, p < N → ddH 0 N h1 p = deed d N M p := by
    intro p h
    unfold ddH
    rw [if_pos ⟨Nat.zero_le p, h⟩, hdd p h]
  rw [hm2]
  by_cases hc : M + 1 = 16
  · rw [if_neg (by rw [hc]; decide)]
    unfold f_X0_endNight
    rw [jn1_e, jn1_e]
    generalize hh3 : s0_night (s0_moment (s0_moment (s0_dids (s0_notes h1 (ntH 0 N (d (3 + M)) h1)) (ddH 0 N h1)) (g0_moment (s0_dids (s0_notes h1 (ntH 0 N (d (3 + M)) h1)) (ddH 0 N h1)) + 1)) 0) (g0_night (s0_moment (s0_moment (s0_dids (s0_notes h1 (ntH 0 N (d (3 + M)) h1)) (ddH 0 N h1)) (g0_moment (s0_dids (s0_notes h1 (ntH 0 N (d (3 + M)) h1)) (ddH 0 N h1)) + 1)) 0) + 1) = h3
    have hp3 : g0_people h3 = nI N := by rw [← hh3]; exact hp1
    have e17 := go17 hN N 0 (r1 + 1) h3 (by omega) hp3
    rw [← e1, nI_0] at e17
    rw [e17, lp_X0_endNight_17]
    have hp4 : g0_people (s0_dids (s0_freshes h3 (frH 0 N h3)) (d0H 0 N h3)) = nI N := hp3
    rw [hp4, if_pos (nI_le (Nat.le_refl N) (by omega)), bd1_e]
    refine ⟨_, rfl, ?_, ?_, ?_, ?_, ?_, ?_⟩
    · rw [hp4, sD_lo (by omega) (by omega) (by omega)]; exact hI.1.symm
    · show g0_night h3 = _
      rw [sD_1, if_pos hc, ← hh3]
      show g0_night h1 + 1 = _
      rw [hR1.2.1]
    · show g0_moment h3 = _
      rw [sD_2, if_pos hc, ← hh3]
      rfl
    · intro i hi
      show g0_cues h3 i = _
      rw [sD_lo (by omega) (by omega) (by omega), ← hh3]
      exact hR1.2.2.2.1 i hi
    · intro i hi
      show g0_tenses h3 i = _
      rw [sD_lo (by omega) (by omega) (by omega), ← hh3]
      exact hR1.2.2.2.2.1 i hi
    · intro p h
      obtain ⟨q0, q1, q2, q3⟩ := hR1.2.2.2.2.2 p h
      refine ⟨?_, ?_, ?_, ?_⟩
      · show g0_kinds h3 p = _
        rw [sD_k h, ← hh3]
        exact q0
      · show frH 0 N h3 p = _
        unfold frH
        rw [sD_f h, if_pos hc, if_pos ⟨Nat.zero_le p, h⟩, ← hh3]
        show hld (g0_freshes h1 p - stl (g0_kinds h1 p)) 0 99 = _
        rw [q1, q0]
      · show g0_notes h3 p = _
        rw [sD_n h, ← hh3]
        exact hnt p h
      · show d0H 0 N h3 p = _
        unfold d0H
        rw [sD_d h, if_pos hc, if_pos ⟨Nat.zero_le p, h⟩]
  · rw [if_pos (show nI (M + 1) < (16 : Int32) from nI_lt (a := M + 1) (b := 16) (by omega) (by omega))]
    refine ⟨_, rfl, ?_, ?_, ?_, ?_, ?_, ?_⟩
    · show g0_people h1 = _
      rw [hp1, sD_lo (by omega) (by omega) (by omega)]; exact hI.1.symm
    · show g0_night h1 = _
      rw [sD_1, if_neg hc]
      exact hR1.2.1
    · rw [hm2, sD_2, if_neg hc]
    · intro i hi
      rw [sD_lo (by omega) (by omega) (by omega)]
      exact hR1.2.2.2.1 i hi
    · intro i hi
      rw [sD_lo (by omega) (by omega) (by omega)]
      exact hR1.2.2.2.2.1 i hi
    · intro p h
      obtain ⟨q0, q1, q2, q3⟩ := hR1.2.2.2.2.2 p h
      refine ⟨?_, ?_, ?_, ?_⟩
      · rw [sD_k h]
        exact q0
      · rw [sD_f h, if_neg hc]
        exact q1
      · rw [sD_n h]
        exact hnt p h
      · rw [sD_d h, if_neg hc]
        exact hdn p h
