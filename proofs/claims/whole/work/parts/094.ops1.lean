/-! PURE 3: the play and people -/
def Op2 (o3 : Option (Int32 × NS)) (o4 : Option (Int32 × MS)) : Prop := ∃ (r : Int32) (n' : NS) (m' : MS), o3 = some (r, n') ∧ o4 = some (r, m') ∧ Rel n' m'
theorem op_fnd {n : NS} {m : MS} (h : Rel n m) (k : Nat) (hk : k < 7) (c : Int32) (hc : (-1000000001 : Int32) - nI k = c) (hc2 : (-1000000001 : Int32) - c = nI k) : Op2 (bd2 (f_X3_finding n c) (fun r n => some (r, n))) (bd2 (f_X4_finds m (nI k)) (fun r m => some (r, m))) := by
  obtain ⟨n', m', h1, h2, h3⟩ := fnd h k hk c hc hc2
  exact ⟨c, n', m', by rw [h1]; rfl, by rw [h2]; rfl, h3⟩
theorem op_f0 {n : NS} {m : MS} (h : Rel n m) : Op2 (bd2 (f_X3_finding n (-1000000001)) (fun r n => some (r, n))) (bd2 (f_X4_finds m 0) (fun r m => some (r, m))) := op_fnd h 0 (by decide) _ (by decide) (by decide)
theorem op_f1 {n : NS} {m : MS} (h : Rel n m) : Op2 (bd2 (f_X3_finding n (-1000000002)) (fun r n => some (r, n))) (bd2 (f_X4_finds m 1) (fun r m => some (r, m))) := op_fnd h 1 (by decide) _ (by decide) (by decide)
theorem op_f2 {n : NS} {m : MS} (h : Rel n m) : Op2 (bd2 (f_X3_finding n (-1000000003)) (fun r n => some (r, n))) (bd2 (f_X4_finds m 2) (fun r m => some (r, m))) := op_fnd h 2 (by decide) _ (by decide) (by decide)
theorem op_f3 {n : NS} {m : MS} (h : Rel n m) : Op2 (bd2 (f_X3_finding n (-1000000004)) (fun r n => some (r, n))) (bd2 (f_X4_finds m 3) (fun r m => some (r, m))) := op_fnd h 3 (by decide) _ (by decide) (by decide)
theorem op_f4 {n : NS} {m : MS} (h : Rel n m) : Op2 (bd2 (f_X3_finding n (-1000000005)) (fun r n => some (r, n))) (bd2 (f_X4_finds m 4) (fun r m => some (r, m))) := op_fnd h 4 (by decide) _ (by decide) (by decide)
theorem op_f5 {n : NS} {m : MS} (h : Rel n m) : Op2 (bd2 (f_X3_finding n (-1000000006)) (fun r n => some (r, n))) (bd2 (f_X4_finds m 5) (fun r m => some (r, m))) := op_fnd h 5 (by decide) _ (by decide) (by decide)
theorem op_f6 {n : NS} {m : MS} (h : Rel n m) : Op2 (bd2 (f_X3_finding n (-1000000007)) (fun r n => some (r, n))) (bd2 (f_X4_finds m 6) (fun r m => some (r, m))) := op_fnd h 6 (by decide) _ (by decide) (by decide)
theorem op_r {n n' : NS} {m m' : MS} {r r' : Int32} (hr : r = r') (h : Rel n m) : Op2 (some (r, n)) (some (r', m)) := ⟨r, n, m, rfl, by rw [hr], h⟩
theorem Rel_house {n : NS} {m : MS} (h : Rel n m) {d : FI} {x : HS} (hx : RHI d x) : Rel (s3_house n x) (s4_d m d) := ⟨hx, h.2.1, h.2.2.1, h.2.2.2.1, h.2.2.2.2.1, h.2.2.2.2.2⟩
theorem RHI_cue {d : FI} {h : HS} {N M i : Nat} (hI : HI N M d) (hR : RH N d h) (hi : i < 16) (v : Int32) : RHI (upd d (3 + i) v) (s0_cues h (upd (g0_cues h) i v)) := by
  obtain ⟨a0, a1, a2, a3, a4⟩ := hI
  obtain ⟨b0, b1, b2, b3, b4, b5⟩ := hR
  have e : ∀ j, j ≠ 3 + i → upd d (3 + i) v j = d j := fun j hj => upd_n hj
  refine ⟨N, M, ⟨by rw [e _ (by omega)]; exact a0, a1, by rw [e _ (by omega)]; exact a2, a3, fun p hp => ?_⟩, by rw [e _ (by omega)]; exact b0, by rw [e _ (by omega)]; exact b1, by rw [e _ (by omega)]; exact b2, fun j hj => ?_, fun j hj => ?_, fun p hp => ?_⟩
  · rw [e _ (by omega), e _ (by omega)]; exact a4 p hp
  · show upd (g0_cues h) i v j = _
    rw [upd_e, upd_e]
    by_cases c : j = i
    · rw [if_pos c, if_pos (by omega)]
    · rw [if_neg c, if_neg (by omega)]; exact b3 j hj
  · rw [e _ (by omega)]; exact b4 j hj
  · rw [e _ (by omega), e _ (by omega), e _ (by omega), e _ (by omega)]; exact b5 p hp
theorem RHI_ten {d : FI} {h : HS} {N M i : Nat} (hI : HI N M d) (hR : RH N d h) (hi : i < 16) (v : Int32) : RHI (upd d (19 + i) v) (s0_tenses h (upd (g0_tenses h) i v)) := by
  obtain ⟨a0, a1, a2, a3, a4⟩ := hI
  obtain ⟨b0, b1, b2, b3, b4, b5⟩ := hR
  have e : ∀ j, j ≠ 19 + i → upd d (19 + i) v j = d j := fun j hj => upd_n hj
  refine ⟨N, M, ⟨by rw [e _ (by omega)]; exact a0, a1, by rw [e _ (by omega)]; exact a2, a3, fun p hp => ?_⟩, by rw [e _ (by omega)]; exact b0, by rw [e _ (by omega)]; exact b1, by rw [e _ (by omega)]; exact b2, fun j hj => ?_, fun j hj => ?_, fun p hp => ?_⟩
  · rw [e _ (by omega), e _ (by omega)]; exact a4 p hp
  · rw [e _ (by omega)]; exact b3 j hj
  · show upd (g0_tenses h) i v j = _
    rw [upd_e, upd_e]
    by_cases c : j = i
    · rw [if_pos c, if_pos (by omega)]
    · rw [if_neg c, if_neg (by omega)]; exact b4 j hj
  · rw [e _ (by omega), e _ (by omega), e _ (by omega), e _ (by omega)]; exact b5 p hp
theorem RHI_k {d : FI} {h : HS} {N M p : Nat} (hI : HI N M d) (hR : RH N d h) (hp : p < N) {v : Int32} (hv : ∃ k, k ≤ 5 ∧ v = nI k) : HI N M (upd d (35 + 4 * p) v) ∧ RH N (upd d (35 + 4 * p) v) (s0_kinds h (upd (g0_kinds h) p v)) := by
  obtain ⟨a0, a1, a2, a3, a4⟩ := hI
  obtain ⟨b0, b1, b2, b3, b4, b5⟩ := hR
  have e : ∀ j, j ≠ 35 + 4 * p → upd d (35 + 4 * p) v j = d j := fun j hj => upd_n hj
  refine ⟨⟨by rw [e _ (by omega)]; exact a0, a1, by rw [e _ (by omega)]; exact a2, a3, fun q hq => ?_⟩, by rw [e _ (by omega)]; exact b0, by rw [e _ (by omega)]; exact b1, by rw [e _ (by omega)]; exact b2, fun j hj => by rw [e _ (by omega)]; exact b3 j hj, fun j hj => by rw [e _ (by omega)]; exact b4 j hj, fun q hq => ?_⟩
  · rw [e (35 + 4 * q + 2) (by omega)]
    refine ⟨?_, (a4 q hq).2⟩
    by_cases c : q = p
    · subst c
      rw [upd_s]
      exact hv
    · rw [e _ (by omega)]; exact (a4 q hq).1
  · rw [e (35 + 4 * q + 1) (by omega), e (35 + 4 * q + 2) (by omega), e (35 + 4 * q + 3) (by omega)]
    refine ⟨?_, (b5 q hq).2⟩
    show upd (g0_kinds h) p v q = _
    rw [upd_e, upd_e]
    by_cases c : q = p
    · rw [if_pos c, if_pos (by omega)]
    · rw [if_neg c, if_neg (by omega)]; exact (b5 q hq).1
theorem RHI_f {d : FI} {h : HS} {N M p : Nat} (hI : HI N M d) (hR : RH N d h) (hp : p < N) (v : Int32) : HI N M (upd d (35 + 4 * p + 1) v) ∧ RH N (upd d (35 + 4 * p + 1) v) (s0_freshes h (upd (g0_freshes h) p v)) := by
  obtain ⟨a0, a1, a2, a3, a4⟩ := hI
  obtain ⟨b0, b1, b2, b3, b4, b5⟩ := hR
  have e : ∀ j, j ≠ 35 + 4 * p + 1 → upd d (35 + 4 * p + 1) v j = d j := fun j hj => upd_n hj
  refine ⟨⟨by rw [e _ (by omega)]; exact a0, a1, by rw [e _ (by omega)]; exact a2, a3, fun q hq => ?_⟩, by rw [e _ (by omega)]; exact b0, by rw [e _ (by omega)]; exact b1, by rw [e _ (by omega)]; exact b2, fun j hj => by rw [e _ (by omega)]; exact b3 j hj, fun j hj => by rw [e _ (by omega)]; exact b4 j hj, fun q hq => ?_⟩
  · rw [e (35 + 4 * q) (by omega), e (35 + 4 * q + 2) (by omega)]
    exact a4 q hq
  · rw [e (35 + 4 * q) (by omega), e (35 + 4 * q + 2) (by omega), e (35 + 4 * q + 3) (by omega)]
    refine ⟨(b5 q hq).1, ?_, (b5 q hq).2.2⟩
    show upd (g0_freshes h) p v q = _
    rw [upd_e, upd_e]
    by_cases c : q = p
    · rw [if_pos c, if_pos (by omega)]
    · rw [if_neg c, if_neg (by omega)]; exact (b5 q hq).2.1
theorem RHI_n {d : FI} {h : HS} {N M p : Nat} (hI : HI N M d) (hR : RH N d h) (hp : p < N) {v : Int32} (hv : -9999 ≤ v.toInt ∧ v.toInt ≤ 9999) : HI N M (upd d (35 + 4 * p + 2) v) ∧ RH N (upd d (35 + 4 * p + 2) v) (s0_notes h (upd (g0_notes h) p v)) := by
  obtain ⟨a0, a1, a2, a3, a4⟩ := hI
  obtain ⟨b0, b1, b2, b3, b4, b5⟩ := hR
  have e : ∀ j, j ≠ 35 + 4 * p + 2 → upd d (35 + 4 * p + 2) v j = d j := fun j hj => upd_n hj
  refine ⟨⟨by rw [e _ (by omega)]; exact a0, a1, by rw [e _ (by omega)]; exact a2, a3, fun q hq => ?_⟩, by rw [e _ (by omega)]; exact b0, by rw [e _ (by omega)]; exact b1, by rw [e _ (by omega)]; exact b2, fun j hj => by rw [e _ (by omega)]; exact b3 j hj, fun j hj => by rw [e _ (by omega)]; exact b4 j hj, fun q hq => ?_⟩
  · rw [e (35 + 4 * q) (by omega)]
    refine ⟨(a4 q hq).1, ?_⟩
    by_cases c : q = p
    · subst c
      rw [upd_s]
      exact hv
    · rw [e _ (by omega)]; exact (a4 q hq).2
  · rw [e (35 + 4 * q) (by omega), e (35 + 4 * q + 1) (by omega), e (35 + 4 * q + 3) (by omega)]
    refine ⟨(b5 q hq).1, (b5 q hq).2.1, ?_, (b5 q hq).2.2.2⟩
    show upd (g0_notes h) p v q = _
    rw [upd_e, upd_e]
    by_cases c : q = p
    · rw [if_pos c, if_pos (by omega)]
    · rw [if_neg c, if_neg (by omega)]; exact (b5 q hq).2.2.1
theorem RHI_d {d : FI} {h : HS} {N M p : Nat} (hI : HI N M d) (hR : RH N d h) (hp : p < N) (v : Int32) : HI N M (upd d (35 + 4 * p + 3) v) ∧ RH N (upd d (35 + 4 * p + 3) v) (s0_dids h (upd (g0_dids h) p v)) := by
  obtain ⟨a0, a1, a2, a3, a4⟩ := hI
  obtain ⟨b0, b1, b2, b3, b4, b5⟩ := hR
  have e : ∀ j, j ≠ 35 + 4 * p + 3 → upd d (35 + 4 * p + 3) v j = d j := fun j hj => upd_n hj
  refine ⟨⟨by rw [e _ (by omega)]; exact a0, a1, by rw [e _ (by omega)]; exact a2, a3, fun q hq => ?_⟩, by rw [e _ (by omega)]; exact b0, by rw [e _ (by omega)]; exact b1, by rw [e _ (by omega)]; exact b2, fun j hj => by rw [e _ (by omega)]; exact b3 j hj, fun j hj => by rw [e _ (by omega)]; exact b4 j hj, fun q hq => ?_⟩
  · rw [e (35 + 4 * q) (by omega), e (35 + 4 * q + 2) (by omega)]
    exact a4 q hq
  · rw [e (35 + 4 * q) (by omega), e (35 + 4 * q + 1) (by omega), e (35 + 4 * q + 2) (by omega)]
    refine ⟨(b5 q hq).1, (b5 q hq).2.1, (b5 q hq).2.2.1, ?_⟩
    show upd (g0_dids h) p v q = _
    rw [upd_e, upd_e]
    by_cases c : q = p
    · rw [if_pos c, if_pos (by omega)]
    · rw [if_neg c, if_neg (by omega)]; exact (b5 q hq).2.2.2
theorem isMoment_e (x : Int32) : f_X4_isMoment x = some (rng x 0 15) := by unfold f_X4_isMoment; rw [in_0_15, bd1_e]
theorem isDone_e (x : Int32) : f_X4_isDone x = some (rng x 0 4) := by unfold f_X4_isDone; rw [in_0_4, bd1_e]
theorem becomes_e {m : MS} {k : Nat} (hk : k < 67) (v : Int32) : f_X4_becomes m (nI k) v = some (g4_d m k, s4_d m (upd (g4_d m) k v)) := by
  unfold f_X4_becomes
  rw [gd_nI hk (by omega), gd_nI hk (by omega), nI_clamp (by omega), jn1_e]
theorem tf {b : Bool} (h : ¬ b = false) : b = true := by cases b <;> simp_all
theorem op_play {n : NS} {m : MS} (h : Rel n m) (p1 p2 p3 : Int32) : Op2 (f_X3_play n p1 p2 p3) (f_X4_play m p1 p2 p3) := by
  obtain ⟨N, M, hI, hR⟩ := h.1
  unfold f_X3_play f_X4_play
  simp only [isIn_e, isMoment_e, in_0_1, bd1_e, bI_0]
  by_cases c1 : rng p1 0 15 = false
  · rw [if_pos c1, if_pos c1]; exact op_f0 h
  rw [if_neg c1, if_neg c1]
  obtain ⟨i, hi, rfl⟩ := rng_nat (n := 15) (by decide) (tf c1)
  have hi' : i < 16 := by omega
  by_cases c2 : p2 = 0
  · subst c2
    rw [if_pos rfl, if_neg (by decide)]
    simp only [if_true, jn1_e, in_0_4, bd1_e, bI_0]
    by_cases c3 : rng p3 0 4 = false
    · rw [if_pos c3, if_pos c3, if_neg (by decide)]; exact op_f0 h
    · rw [if_neg c3, if_neg c3, gd_nI hi' (by omega), gd_nI hi' (by omega), nI_clamp (by omega), ix_cue, becomes_e (by omega), bd2_e, jn1_e]
      exact ⟨_, _, _, rfl, by rw [hR.2.2.2.1 i hi'], Rel_house h (RHI_cue hI hR hi' p3)⟩
  · rw [if_neg c2]
    by_cases c4 : p2 = 1
    · subst c4
      rw [if_pos rfl, if_neg (by decide)]
      simp only [if_neg c2, jn1_e, in_0_20, bd1_e, bI_0]
      by_cases c3 : rng p3 0 20 = false
      · rw [if_pos c3, if_pos c3]; exact op_f0 h
      · rw [if_neg c3, if_neg c3, gd_nI hi' (by omega), gd_nI hi' (by omega), nI_clamp (by omega), ix_ten, becomes_e (by omega), bd2_e, jn1_e]
        exact ⟨_, _, _, rfl, by rw [hR.2.2.2.2.1 i hi'], Rel_house h (RHI_ten hI hR hi' p3)⟩
    · rw [if_neg c4]
      have c5 : rng p2 0 1 = false := by
        by_cases c5 : rng p2 0 1 = false
        · exact c5
        · obtain ⟨j, hj, rfl⟩ := rng_nat (n := 1) (by decide) (tf c5)
          rcases (show j = 0 ∨ j = 1 by omega) with rfl | rfl
          · exact absurd rfl c2
          · exact absurd rfl c4
      rw [if_pos c5]; exact op_f0 h
