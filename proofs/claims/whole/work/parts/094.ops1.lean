/-! PURE 3: the play and people -/
def Op2 (o3 : Option (Int32 × NS)) (o4 : Option (Int32 × MS)) : Prop := ∃ (r : Int32) (n' : NS) (m' : MS), o3 = some (r, n') ∧ o4 = some (r, m') ∧ Rel n' m'
theorem op_fnd {n : NS} {m : MS} (h : Rel n m) (k : Nat) (hk : k < 7) (c : Int32) (hc : (-1000000001 : Int32) - nI k = c) (hc2 : (-1000000001 : Int32) - c = nI k) : Op2 (bd2 (f_X3_finding n c) (fun r n => some (r, n))) (bd2 (f_X4_finds m (nI k)) (fun r m => some (r, m))) := by
  obtain ⟨n', m', h1, h2, h3⟩ := fnd h k hk c hc hc2
  exact ⟨c, n', m', by rw [h1]; rfl, by rw [h2]; rfl, h3⟩
theorem op_f0 {n : NS} {m : MS} (h : Rel n m) : Op2 (bd2 (f_X3_finding n (-1000000001)) (fun r n => some (r, n))) (bd2 (f_X4_finds m 0) (fun r m => some (r, m))) := op_fnd h 0 (by decide) _ (by decide) (by decide)
theorem op_f1 {n : NS} {m : MS} (h : Rel n m) : Op2 (bd2 (f_X3_finding n (-1000000002)) (fun r n => some (r, n))) (bd2 (f_X4_finds m 1) (fun r m => some (r, m))) := op_fnd h 1 (by decide) _ (by decide) (by decide)
theorem op_f2 {n : NS} {m : MS} (h : Rel n m) : Op2 (bd2 (f_X3_finding n (-1000000003)) (fun r n => some (r, n))) (bd2 (f_X4_finds m 2) (fun r m => some (r, m))) := op_fnd h 2 (by decide) _ (by decide) (by decide)
theorem op_f3 {n : NS} {m : MS} (h : Rel n m) : Op2 (bd2 (f_X3_finding n (-1000000004)) (fun r n => some (r, n))) (bd2 (f_X4_finds m 3) (fun r m => some (r, m))) := op_fnd h 3 (by decide) _ (by decide) (by decide)
theorem op_f4 {n : NS} {m : MS} (h : Rel n m) : Op2 (bd2 (f_X3_finding n (-1000000005)) (fun r n => some (r, n))) (bd2 (f_X4_finds m 4) (fun r m => some (r, m))) := op_fnd h 4 (by decide) _ (by decide) (by decide)
theorem op_f5 {n : NS} {m : MS} (h : Rel n m) : Op2 (bd2 (f_X3_finding n (-1000000006)) (fun r n => some (r, n))) (bd2 (f_X4_finds m 5) (fun r m => some (r, m))) := op_fnd h 5 (by decide) _ (by decide) (by decide)
theorem op_f6 {n : NS} {m : MS} (h : Rel n m) : Op2 (bd2 (f_X3_finding n (-1000000007)) (fun r n => some (r, n))) (bd2 (f_X4_finds m 6) (fun r m => some (r, m))) := op_fnd h 6 (by decide) _ (by decide) (by decide)
theorem op_r {n n' : NS} {m m' : MS} {r r' : Int32} (hr : r = r') (h : Rel n m) : Op2 (some (r, n)) (some (r', m)) := ⟨r, n, m, rfl, by rw [hr], h⟩
theorem Rel_house {n : NS} {m : MS} (h : Rel n m) {d : FI} {x : HS} (hx : RHI d x) : Rel (s3_house n x) (s4_d m d) := ⟨hx, h.2.1, h.2.2.1, h.2.2.2.1, h.2.2.2.2.1, h.2.2.2.2.2⟩
theorem RHI_cue {d : FI} {h : HS} {N M i : Nat} (hI : HI N M d) (hR : RH N d h) (hi : i < 16) (v : Int32) : HI N M (upd d (3 + i) v) ∧ RH N (upd d (3 + i) v) (s0_cues h (upd (g0_cues h) i v)) := by
  obtain ⟨a0, a1, a2, a3, a4⟩ := hI
  obtain ⟨b0, b1, b2, b3, b4, b5⟩ := hR
  have e : ∀ j, j ≠ 3 + i → upd d (3 + i) v j = d j := fun j hj => upd_n hj
  refine ⟨⟨by rw [e _ (by omega)]; exact a0, a1, by rw [e _ (by omega)]; exact a2, a3, fun p hp => ?_⟩, by rw [e _ (by omega)]; exact b0, by rw [e _ (by omega)]; exact b1, by rw [e _ (by omega)]; exact b2, fun j hj => ?_, fun j hj => ?_, fun p hp => ?_⟩
  · rw [e _ (by omega), e _ (by omega)]; exact a4 p hp
  · show upd (g0_cues h) i v j = _
    rw [upd_e, upd_e]
    by_cases c : j = i
    · rw [if_pos c, if_pos (by omega)]
    · rw [if_neg c, if_neg (by omega)]; exact b3 j hj
  · rw [e _ (by omega)]; exact b4 j hj
  · rw [e _ (by omega), e _ (by omega), e _ (by omega), e _ (by omega)]; exact b5 p hp
theorem RHI_ten {d : FI} {h : HS} {N M i : Nat} (hI : HI N M d) (hR : RH N d h) (hi : i < 16) (v : Int32) : HI N M (upd d (19 + i) v) ∧ RH N (upd d (19 + i) v) (s0_tenses h (upd (g0_tenses h) i v)) := by
  obtain ⟨a0, a1, a2, a3, a4⟩ := hI
  obtain ⟨b0, b1, b2, b3, b4, b5⟩ := hR
  have e : ∀ j, j ≠ 19 + i → upd d (19 + i) v j = d j := fun j hj => upd_n hj
  refine ⟨⟨by rw [e _ (by omega)]; exact a0, a1, by rw [e _ (by omega)]; exact a2, a3, fun p hp => ?_⟩, by rw [e _ (by omega)]; exact b0, by rw [e _ (by omega)]; exact b1, by rw [e _ (by omega)]; exact b2, fun j hj => ?_, fun j hj => ?_, fun p hp => ?_⟩
  · rw [e _ (by omega), e _ (by omega)]; exact a4 p hp
  · rw [e _ (by omega)]; exact b3 j hj
  · show upd (g0_tenses h) i v j = _
    rw [upd_e, upd_e]
    by_cases c : j = i
    · rw [if_pos c, if_pos (by omega)]
    · rw [if_neg c, if_neg (by omega)]; exact b4 j hj
  · rw [e _ (by omega), e _ (by omega), e _ (by omega), e _ (by omega)]; exact b5 p hp
theorem RHI_k {d : FI} {h : HS} {N M p : Nat} (hI : HI N M d) (hR : RH N d h) (hp : p < N) {v : Int32} (hv : ∃ k, k ≤ 5 ∧ v = nI k) : HI N M (upd d (35 + 4 * p) v) ∧ RH N (upd d (35 + 4 * p) v) (s0_kinds h (upd (g0_kinds h) p v)) := by
  obtain ⟨a0, a1, a2, a3, a4⟩ := hI
  obtain ⟨b0, b1, b2, b3, b4, b5⟩ := hR
  have e : ∀ j, j ≠ 35 + 4 * p → upd d (35 + 4 * p) v j = d j := fun j hj => upd_n hj
  refine ⟨⟨by rw [e _ (by omega)]; exact a0, a1, by rw [e _ (by omega)]; exact a2, a3, fun q hq => ?_⟩, by rw [e _ (by omega)]; exact b0, by rw [e _ (by omega)]; exact b1, by rw [e _ (by omega)]; exact b2, fun j hj => by rw [e _ (by omega)]; exact b3 j hj, fun j hj => by rw [e _ (by omega)]; exact b4 j hj, fun q hq => ?_⟩
  · rw [e (35 + 4 * q + 2) (by omega)]
    refine ⟨?_, (a4 q hq).2⟩
    by_cases c : q = p
    · subst c
      rw [upd_s]
      exact hv
    · rw [e _ (by omega)]; exact (a4 q hq).1
  · rw [e (35 + 4 * q + 1) (by omega), e (35 + 4 * q + 2) (by omega), e (35 + 4 * q + 3) (by omega)]
    refine ⟨?_, (b5 q hq).2⟩
    show upd (g0_kinds h) p v q = _
    rw [upd_e, upd_e]
    by_cases c : q = p
    · rw [if_pos c, if_pos (by omega)]
    · rw [if_neg c, if_neg (by omega)]; exact (b5 q hq).1
theorem RHI_f {d : FI} {h : HS} {N M p : Nat} (hI : HI N M d) (hR : RH N d h) (hp : p < N) (v : Int32) : HI N M (upd d (35 + 4 * p + 1) v) ∧ RH N (upd d (35 + 4 * p + 1) v) (s0_freshes h (upd (g0_freshes h) p v)) := by
  obtain ⟨a0, a1, a2, a3, a4⟩ := hI
  obtain ⟨b0, b1, b2, b3, b4, b5⟩ := hR
  have e : ∀ j, j ≠ 35 + 4 * p + 1 → upd d (35 + 4 * p + 1) v j = d j := fun j hj => upd_n hj
  refine ⟨⟨by rw [e _ (by omega)]; exact a0, a1, by rw [e _ (by omega)]; exact a2, a3, fun q hq => ?_⟩, by rw [e _ (by omega)]; exact b0, by rw [e _ (by omega)]; exact b1, by rw [e _ (by omega)]; exact b2, fun j hj => by rw [e _ (by omega)]; exact b3 j hj, fun j hj => by rw [e _ (by omega)]; exact b4 j hj, fun q hq => ?_⟩
  · rw [e (35 + 4 * q) (by omega), e (35 + 4 * q + 2) (by omega)]
    exact a4 q hq
  · rw [e (35 + 4 * q) (by omega), e (35 + 4 * q + 2) (by omega), e (35 + 4 * q + 3) (by omega)]
    refine ⟨(b5 q hq).1, ?_, (b5 q hq).2.2⟩
    show upd (g0_freshes h) p v q = _
    rw [upd_e, upd_e]
    by_cases c : q = p
    · rw [if_pos c, if_pos (by omega)]
    · rw [if_neg c, if_neg (by omega)]; exact (b5 q hq).2.1
theorem RHI_n {d : FI} {h : HS} {N M p : Nat} (hI : HI N M d) (hR : RH N d h) (hp : p < N) {v : Int32} (hv : -9999 ≤ v.toInt ∧ v.toInt ≤ 9999) : HI N M (upd d (35 + 4 * p + 2) v) ∧ RH N (upd d (35 + 4 * p + 2) v) (s0_notes h (upd (g0_notes h) p v)) := by
  obtain ⟨a0, a1, a2, a3, a4⟩ := hI
  obtain ⟨b0, b1, b2, b3, b4, b5⟩ := hR
  have e : ∀ j, j ≠ 35 + 4 * p + 2 → upd d (35 + 4 * p + 2) v j = d j := fun j hj => upd_n hj
  refine ⟨⟨by rw [e _ (by omega)]; exact a0, a1, by rw [e _ (by omega)]; exact a2, a3, fun q hq => ?_⟩, by rw [e _ (by omega)]; exact b0, by rw [e _ (by omega)]; exact b1, by rw [e _ (by omega)]; exact b2, fun j hj => by rw [e _ (by omega)]; exact b3 j hj, fun j hj => by rw [e _ (by omega)]; exact b4 j hj, fun q hq => ?_⟩
  · rw [e (35 + 4 * q) (by omega)]
    refine ⟨(a4 q hq).1, ?_⟩
    by_cases c : q = p
    · subst c
      rw [upd_s]
      exact hv
    · rw [e _ (by omega)]; exact (a4 q hq).2
  · rw [e (35 + 4 * q) (by omega), e (35 + 4 * q + 1) (by omega), e (35 + 4 * q + 3) (by omega)]
    refine ⟨(b5 q hq).1, (b5 q hq).2.1, ?_, (b5 q hq).2.2.2⟩
    show upd (g0_notes h) p v q = _
    rw [upd_e, upd_e]
    by_cases c : q = p
    · rw [if_pos c, if_pos (by omega)]
    · rw [if_neg c, if_neg (by omega)]; exact (b5 q hq).2.2.1
theorem RHI_d {d : FI} {h : HS} {N M p : Nat} (hI : HI N M d) (hR : RH N d h) (hp : p < N) (v : Int32) : HI N M (upd d (35 + 4 * p + 3) v) ∧ RH N (upd d (35 + 4 * p + 3) v) (s0_dids h (upd (g0_dids h) p v)) := by
  obtain ⟨a0, a1, a2, a3, a4⟩ := hI
  obtain ⟨b0, b1, b2, b3, b4, b5⟩ := hR
  have e : ∀ j, j ≠ 35 + 4 * p + 3 → upd d (35 + 4 * p + 3) v j = d j := fun j hj => upd_n hj
  refine ⟨⟨by rw [e _ (by omega)]; exact a0, a1, by rw [e _ (by omega)]; exact a2, a3, fun q hq => ?_⟩, by rw [e _ (by omega)]; exact b0, by rw [e _ (by omega)]; exact b1, by rw [e _ (by omega)]; exact b2, fun j hj => by rw [e _ (by omega)]; exact b3 j hj, fun j hj => by rw [e _ (by omega)]; exact b4 j hj, fun q hq => ?_⟩
  · rw [e (35 + 4 * q) (by omega), e (35 + 4 * q + 2) (by omega)]
    exact a4 q hq
  · rw [e (35 + 4 * q) (by omega), e (35 + 4 * q + 1) (by omega), e (35 + 4 * q + 2) (by omega)]
    refine ⟨(b5 q hq).1, (b5 q hq).2.1, (b5 q hq).2.2.1, ?_⟩
    show upd (g0_dids h) p v q = _
    rw [upd_e, upd_e]
    by_cases c : q = p
    · rw [if_pos c, if_pos (by omega)]
    · rw [if_neg c, if_neg (by omega)]; exact (b5 q hq).2.2.2
theorem isMoment_e (x : Int32) : f_X4_isMoment x = some (rng x 0 15) := by unfold f_X4_isMoment; rw [in_0_15, bd1_e]
theorem isDone_e (x : Int32) : f_X4_isDone x = some (rng x 0 4) := by unfold f_X4_isDone; rw [in_0_4, bd1_e]
theorem becomes_e {m : MS} {k : Nat} (hk : k < 67) (v : Int32) : f_X4_becomes m (nI k) v = some (g4_d m k, s4_d m (upd (g4_d m) k v)) := by
  unfold f_X4_becomes
  rw [gd_nI hk (by omega), gd_nI hk (by omega), nI_clamp (by omega), jn1_e]
theorem tf {b : Bool} (h : ¬ b = false) : b = true := by cases b <;> simp_all
theorem op_play {n : NS} {m : MS} (h : Rel n m) (p1 p2 p3 : Int32) : Op2 (f_X3_play n p1 p2 p3) (f_X4_play m p1 p2 p3) := by
  obtain ⟨N, M, hI, hR⟩ := h.1
  unfold f_X3_play f_X4_play
  simp only [isIn_e, isMoment_e, in_0_1, bd1_e, bI_0]
  cases c1 : rng p1 0 15
  · simp only [if_true, if_false, reduceCtorEq, bd1_e, bd2_e, jn1_e, bI_0]; exact op_f0 h
  obtain ⟨i, hi, rfl⟩ := rng_nat (n := 15) (by decide) c1
  have hi' : i < 16 := by omega
  simp only [if_true, if_false, reduceCtorEq, bd1_e, bd2_e, jn1_e, bI_0]
  by_cases c2 : p2 = 0
  · subst c2
    simp only [show rng 0 0 1 = true from by decide, if_true, if_false, reduceCtorEq, bd1_e, bd2_e, jn1_e, bI_0, in_0_4]
    cases c3 : rng p3 0 4
    · simp only [show ¬ ((0 : Int32) = 1) from by decide, if_true, if_false, reduceCtorEq, bd1_e, bd2_e, jn1_e, bI_0]; exact op_f0 h
    · simp only [if_true, if_false, reduceCtorEq, bd1_e, bd2_e, jn1_e, bI_0, gd_nI hi' (show (16 : Nat) < 2 ^ 31 by omega), nI_clamp (show i < 2 ^ 31 by omega), ix_cue, becomes_e (show 3 + i < 67 by omega)]
      exact ⟨_, _, _, rfl, by rw [hR.2.2.2.1 i hi'], Rel_house h ⟨N, M, RHI_cue hI hR hi' p3⟩⟩
  · by_cases c4 : p2 = 1
    · subst c4
      simp only [show rng 1 0 1 = true from by decide, show ¬ ((1 : Int32) = 0) from by decide, if_true, if_false, reduceCtorEq, bd1_e, bd2_e, jn1_e, bI_0, in_0_20]
      cases c3 : rng p3 0 20
      · simp only [if_true, if_false, reduceCtorEq, bd1_e, bd2_e, jn1_e, bI_0]; exact op_f0 h
      · simp only [if_true, if_false, reduceCtorEq, bd1_e, bd2_e, jn1_e, bI_0, gd_nI hi' (show (16 : Nat) < 2 ^ 31 by omega), nI_clamp (show i < 2 ^ 31 by omega), ix_ten, becomes_e (show 19 + i < 67 by omega)]
        exact ⟨_, _, _, rfl, by rw [hR.2.2.2.2.1 i hi'], Rel_house h ⟨N, M, RHI_ten hI hR hi' p3⟩⟩
    · have c5 : rng p2 0 1 = false := by
        cases c5 : rng p2 0 1
        · rfl
        · obtain ⟨j, hj, rfl⟩ := rng_nat (n := 1) (by decide) c5
          rcases (show j = 0 ∨ j = 1 by omega) with rfl | rfl
          · exact absurd rfl c2
          · exact absurd rfl c4
      simp only [c2, c4, c5, if_true, if_false, reduceCtorEq, bd1_e, bd2_e, jn1_e, bI_0]; exact op_f0 h
/-- a person's number, or none -/
theorem pin_c {N : Nat} (hN : N ≤ 8) (x : Int32) : pin N x = false ∨ ∃ j, j < N ∧ x = nI j ∧ pin N x = true := by
  cases c : pin N x
  · exact Or.inl rfl
  · obtain ⟨j, hj, e⟩ := pin_t hN c
    exact Or.inr ⟨j, hj, e, rfl⟩
theorem op_of {n : NS} {m : MS} (h : Rel n m) (p1 p2 : Int32) : Op2 (f_X3_of n p1 p2) (f_X4_of m p1 p2) := by
  obtain ⟨N, M, hI, hR⟩ := h.1
  have hN := hI.2.1
  unfold f_X3_of f_X4_of
  simp only [isThere_e (hR.1.trans hI.1), isPerson_e hI, in_0_5, bd1_e, bI_0]
  rcases pin_c hN p1 with c1 | ⟨j, hj, rfl, c1⟩
  · simp only [c1, if_true, if_false, reduceCtorEq, bd1_e, bd2_e, jn1_e, bI_0]; exact op_f0 h
  obtain ⟨b0, b1, b2, b3⟩ := hR.2.2.2.2.2 j hj
  have h8 : j < 8 := by omega
  simp only [c1, if_true, if_false, reduceCtorEq, bd1_e, bd2_e, jn1_e, bI_0, gd_nI h8 (show (8 : Nat) < 2 ^ 31 by omega), nI_clamp (show j < 2 ^ 31 by omega), b0, b1, b2, b3, deedOf_e hI hR hj, doesNow_e hI hj, staleness_e, stales_e h8, its2 h8]
  cases c2 : rng p2 0 5
  · have e : ∀ k : Nat, k ≤ 5 → ¬ p2 = nI k := by
      intro k hk q
      rw [q] at c2
      rcases rng_f.mp c2 with z | z
      · exact nI_pos (by omega) z
      · exact absurd z (nI_nlt (a := 5) (b := k) hk (by omega))
    simp only [show ¬ p2 = 0 from e 0 (by decide), show ¬ p2 = 1 from e 1 (by decide), show ¬ p2 = 2 from e 2 (by decide), show ¬ p2 = 3 from e 3 (by decide), show ¬ p2 = 4 from e 4 (by decide), show ¬ p2 = 5 from e 5 (by decide), if_true, if_false, reduceCtorEq, bd1_e, bd2_e, jn1_e, bI_0]
    exact op_f0 h
  · obtain ⟨k, hk, rfl⟩ := rng_nat (n := 5) (by decide) c2
    rcases (show k = 0 ∨ k = 1 ∨ k = 2 ∨ k = 3 ∨ k = 4 ∨ k = 5 by omega) with rfl | rfl | rfl | rfl | rfl | rfl
    · simp only [show (nI 0 = (0 : Int32)) = True from by decide, show (nI 0 = (2 : Int32)) = False from by decide, show (nI 0 = (3 : Int32)) = False from by decide, show (nI 0 = (4 : Int32)) = False from by decide, show (nI 0 = (5 : Int32)) = False from by decide, if_true, if_false, reduceCtorEq, bd1_e, bd2_e, jn1_e, bI_0, its_e (w := 0) h8 (by decide)]
      exact op_r (n' := n) (m' := m) rfl h
    · simp only [show (nI 1 = (0 : Int32)) = False from by decide, show (nI 1 = (1 : Int32)) = True from by decide, show (nI 1 = (2 : Int32)) = False from by decide, show (nI 1 = (3 : Int32)) = False from by decide, show (nI 1 = (4 : Int32)) = False from by decide, show (nI 1 = (5 : Int32)) = False from by decide, if_true, if_false, reduceCtorEq, bd1_e, bd2_e, jn1_e, bI_0, its_e (w := 1) h8 (by decide)]
      exact op_r (n' := n) (m' := m) rfl h
    · simp only [show (nI 2 = (0 : Int32)) = False from by decide, show (nI 2 = (1 : Int32)) = False from by decide, show (nI 2 = (2 : Int32)) = True from by decide, if_true, if_false, reduceCtorEq, bd1_e, bd2_e, jn1_e, bI_0]
      exact op_r (n' := n) (m' := m) rfl h
    · simp only [show (nI 3 = (0 : Int32)) = False from by decide, show (nI 3 = (1 : Int32)) = False from by decide, show (nI 3 = (2 : Int32)) = False from by decide, show (nI 3 = (3 : Int32)) = True from by decide, if_true, if_false, reduceCtorEq, bd1_e, bd2_e, jn1_e, bI_0, its_e (w := 3) h8 (by decide)]
      exact op_r (n' := n) (m' := m) rfl h
    · simp only [show (nI 4 = (0 : Int32)) = False from by decide, show (nI 4 = (1 : Int32)) = False from by decide, show (nI 4 = (2 : Int32)) = False from by decide, show (nI 4 = (3 : Int32)) = False from by decide, show (nI 4 = (4 : Int32)) = True from by decide, if_true, if_false, reduceCtorEq, bd1_e, bd2_e, jn1_e, bI_0]
      exact op_r (n' := n) (m' := m) rfl h
    · simp only [show (nI 5 = (0 : Int32)) = False from by decide, show (nI 5 = (1 : Int32)) = False from by decide, show (nI 5 = (2 : Int32)) = False from by decide, show (nI 5 = (3 : Int32)) = False from by decide, show (nI 5 = (4 : Int32)) = False from by decide, show (nI 5 = (5 : Int32)) = True from by decide, if_true, if_false, reduceCtorEq, bd1_e, bd2_e, jn1_e, bI_0]
      exact op_r (n' := n) (m' := m) rfl h
theorem op_scores {n : NS} {m : MS} (h : Rel n m) (p1 p2 p3 : Int32) : Op2 (f_X3_scores n p1 p2 p3) (f_X4_scores m p1 p2 p3) := by
  obtain ⟨N, M, hI, hR⟩ := h.1
  have hN := hI.2.1
  unfold f_X3_scores f_X4_scores
  simp only [isThere_e (hR.1.trans hI.1), isPerson_e hI, isIn_e, isDone_e, bd1_e, bI_0]
  rcases pin_c hN p1 with c1 | ⟨j, hj, rfl, c1⟩
  · simp only [c1, if_true, if_false, reduceCtorEq, bd1_e, bd2_e, jn1_e, bI_0]; exact op_f0 h
  have h8 : j < 8 := by omega
  simp only [c1, if_true, if_false, reduceCtorEq, bd1_e, bd2_e, jn1_e, bI_0, gd_nI h8 (show (8 : Nat) < 2 ^ 31 by omega), nI_clamp (show j < 2 ^ 31 by omega), (hR.2.2.2.2.2 j hj).1, scoreFor3_e, scoresFor_e h8]
  cases c2 : rng p2 0 4
  · simp only [if_true, if_false, reduceCtorEq, bd1_e, bd2_e, jn1_e, bI_0]; exact op_f0 h
  · cases c3 : rng p3 0 4
    · simp only [if_true, if_false, reduceCtorEq, bd1_e, bd2_e, jn1_e, bI_0]; exact op_f0 h
    · simp only [if_true, if_false, reduceCtorEq, bd1_e, bd2_e, jn1_e, bI_0]; exact op_r (n' := n) (m' := m) rfl h
theorem op_turn {n : NS} {m : MS} (h : Rel n m) (p1 p2 : Int32) : Op2 (f_X3_turn n p1 p2) (f_X4_turn m p1 p2) := by
  obtain ⟨N, M, hI, hR⟩ := h.1
  have hN := hI.2.1
  unfold f_X3_turn f_X4_turn
  simp only [isThere_e (hR.1.trans hI.1), isPerson_e hI, isIn_e, in_0_5, bd1_e, bI_0]
  rcases pin_c hN p1 with c1 | ⟨j, hj, rfl, c1⟩
  · simp only [c1, if_true, if_false, reduceCtorEq, bd1_e, bd2_e, jn1_e, bI_0]; exact op_f0 h
  have h8 : j < 8 := by omega
  cases c2 : rng p2 0 5
  · simp only [c1, if_true, if_false, reduceCtorEq, bd1_e, bd2_e, jn1_e, bI_0]; exact op_f0 h
  · simp only [c1, if_true, if_false, reduceCtorEq, bd1_e, bd2_e, jn1_e, bI_0, gd_nI h8 (show (8 : Nat) < 2 ^ 31 by omega), nI_clamp (show j < 2 ^ 31 by omega), (hR.2.2.2.2.2 j hj).1, ix_who, becomes_e (show 35 + 4 * j < 67 by omega)]
    obtain ⟨k, hk, e⟩ := rng_nat (n := 5) (by decide) c2
    exact ⟨_, _, _, rfl, rfl, Rel_house h ⟨N, M, RHI_k hI hR hj ⟨k, hk, e⟩⟩⟩
theorem rng_note {x : Int32} (h : rng x (-9999) 9999 = true) : -9999 ≤ x.toInt ∧ x.toInt ≤ 9999 := by
  obtain ⟨h1, h2⟩ := rng_t.mp h
  rw [i32_le] at h1 h2
  exact ⟨h1, h2⟩
theorem op_set {n : NS} {m : MS} (h : Rel n m) (p1 p2 p3 : Int32) : Op2 (f_X3_set n p1 p2 p3) (f_X4_set m p1 p2 p3) := by
  obtain ⟨N, M, hI, hR⟩ := h.1
  have hN := hI.2.1
  unfold f_X3_set f_X4_set
  simp only [isThere_e (hR.1.trans hI.1), isPerson_e hI, isIn_e, isDone_e, in_0_99, in_note, bd1_e, bI_0]
  have e12 : ¬ ((1 : Int32) = 2) := by decide
  have e13 : ¬ ((1 : Int32) = 3) := by decide
  have e21 : ¬ ((2 : Int32) = 1) := by decide
  have e23 : ¬ ((2 : Int32) = 3) := by decide
  have e31 : ¬ ((3 : Int32) = 1) := by decide
  have e32 : ¬ ((3 : Int32) = 2) := by decide
  rcases pin_c hN p1 with c1 | ⟨j, hj, rfl, c1⟩
  · simp only [c1, if_true, if_false, reduceCtorEq, bd1_e, bd2_e, jn1_e, bI_0]
    by_cases d1 : p2 = 1
    · simp only [d1, if_true, if_false, reduceCtorEq, bd1_e, bd2_e, jn1_e, bI_0]; exact op_f0 h
    · by_cases d2 : p2 = 2
      · simp only [d2, e21, if_true, if_false, reduceCtorEq, bd1_e, bd2_e, jn1_e, bI_0]; exact op_f0 h
      · by_cases d3 : p2 = 3
        · simp only [d3, e31, e32, if_true, if_false, reduceCtorEq, bd1_e, bd2_e, jn1_e, bI_0]
          cases rng p3 0 4 <;> simp only [if_true, if_false, reduceCtorEq, bd1_e, bd2_e, jn1_e, bI_0] <;> exact op_f0 h
        · simp only [d1, d2, d3, if_true, if_false, reduceCtorEq, bd1_e, bd2_e, jn1_e, bI_0]; exact op_f0 h
  have h8 : j < 8 := by omega
  obtain ⟨b0, b1, b2, b3⟩ := hR.2.2.2.2.2 j hj
  simp only [c1, if_true, if_false, reduceCtorEq, bd1_e, bd2_e, jn1_e, bI_0, gd_nI h8 (show (8 : Nat) < 2 ^ 31 by omega), nI_clamp (show j < 2 ^ 31 by omega)]
  by_cases d1 : p2 = 1
  · subst d1
    simp only [e12, e13, if_true, if_false, reduceCtorEq, bd1_e, bd2_e, jn1_e, bI_0]
    cases c2 : rng p3 0 99
    · simp only [if_true, if_false, reduceCtorEq, bd1_e, bd2_e, jn1_e, bI_0]; exact op_f0 h
    · simp only [if_true, if_false, reduceCtorEq, bd1_e, bd2_e, jn1_e, bI_0, show ¬ (bI true = 0) from by decide, show ((35 : Int32) + 4 * nI j) + 1 = nI (35 + 4 * j + 1) from ix_its j 1, becomes_e (show 35 + 4 * j + 1 < 67 by omega), b1]
      exact ⟨_, _, _, rfl, rfl, Rel_house h ⟨N, M, RHI_f hI hR hj p3⟩⟩
  · by_cases d2 : p2 = 2
    · subst d2
      simp only [e21, e23, if_true, if_false, reduceCtorEq, bd1_e, bd2_e, jn1_e, bI_0]
      cases c2 : rng p3 (-9999) 9999
      · simp only [if_true, if_false, reduceCtorEq, bd1_e, bd2_e, jn1_e, bI_0]; exact op_f0 h
      · simp only [if_true, if_false, reduceCtorEq, bd1_e, bd2_e, jn1_e, bI_0, show ¬ (bI true = 0) from by decide, show ((35 : Int32) + 4 * nI j) + 2 = nI (35 + 4 * j + 2) from ix_its j 2, becomes_e (show 35 + 4 * j + 2 < 67 by omega), b2]
        exact ⟨_, _, _, rfl, rfl, Rel_house h ⟨N, M, RHI_n hI hR hj (rng_note c2)⟩⟩
    · by_cases d3 : p2 = 3
      · subst d3
        simp only [e31, e32, if_true, if_false, reduceCtorEq, bd1_e, bd2_e, jn1_e, bI_0]
        cases c2 : rng p3 0 4
        · simp only [if_true, if_false, reduceCtorEq, bd1_e, bd2_e, jn1_e, bI_0]; exact op_f0 h
        · simp only [if_true, if_false, reduceCtorEq, bd1_e, bd2_e, jn1_e, bI_0, show ¬ ((1 : Int32) = 0) from by decide, show ((35 : Int32) + 4 * nI j) + 3 = nI (35 + 4 * j + 3) from ix_its j 3, becomes_e (show 35 + 4 * j + 3 < 67 by omega), b3]
          exact ⟨_, _, _, rfl, rfl, Rel_house h ⟨N, M, RHI_d hI hR hj p3⟩⟩
      · simp only [d1, d2, d3, if_true, if_false, reduceCtorEq, bd1_e, bd2_e, jn1_e, bI_0]; exact op_f0 h
