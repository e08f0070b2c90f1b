/-! PURE 12d: kinds and cues by name -/
theorem kind_e {L a b : Nat} {f : FI} {t : TS} {m : MS} (hL : L ≤ 120) (hk : Tk L f t m a b) (e3 : g2_bytes t = f) : ∃ r, f_X2_kindNamed t = some r ∧ f_X4_kindHere m = some r ∧ (r = -1 ∨ (∃ k, k ≤ 5 ∧ r = nI k) ∧ g2_token t = 1) := by
  have hw : ∀ i, f_X2_isWord t i = some true → g2_token t = 1 := by
    intro i h
    unfold f_X2_isWord at h
    by_cases c : g2_token t = 1
    · exact c
    · rw [if_neg c] at h
      exact absurd h (by simp)
  obtain ⟨q, eF⟩ : ∃ q, FU = q + 7 := ⟨FU - 7, by unfold FU; omega⟩
  obtain ⟨B0, u0, w0⟩ := word_e hL hk e3 (i := 13) (by decide) _ wc_13
  obtain ⟨B1, u1, w1⟩ := word_e hL hk e3 (i := 8) (by decide) _ wc_8
  obtain ⟨B2, u2, w2⟩ := word_e hL hk e3 (i := 9) (by decide) _ wc_9
  obtain ⟨B3, u3, w3⟩ := word_e hL hk e3 (i := 10) (by decide) _ wc_10
  obtain ⟨B4, u4, w4⟩ := word_e hL hk e3 (i := 11) (by decide) _ wc_11
  obtain ⟨B5, u5, w5⟩ := word_e hL hk e3 (i := 12) (by decide) _ wc_12
  have s0 : lp_X2_kindNamed_2 t (q + 7) 0 = bd1 (f_X2_isWord t 13) (fun r7 => if (bI r7) = 0 then lp_X2_kindNamed_2 t (q + 6) 1 else some 0) := by
    rw [lp_X2_kindNamed_2, if_neg (by decide), show f_X2_nameOfKind 0 = some 13 by decide, bd1_e]
    rfl
  have s1 : lp_X2_kindNamed_2 t (q + 6) 1 = bd1 (f_X2_isWord t 8) (fun r7 => if (bI r7) = 0 then lp_X2_kindNamed_2 t (q + 5) 2 else some 1) := by
    rw [lp_X2_kindNamed_2, if_neg (by decide), show f_X2_nameOfKind 1 = some 8 by decide, bd1_e]
    rfl
  have s2 : lp_X2_kindNamed_2 t (q + 5) 2 = bd1 (f_X2_isWord t 9) (fun r7 => if (bI r7) = 0 then lp_X2_kindNamed_2 t (q + 4) 3 else some 2) := by
    rw [lp_X2_kindNamed_2, if_neg (by decide), show f_X2_nameOfKind 2 = some 9 by decide, bd1_e]
    rfl
  have s3 : lp_X2_kindNamed_2 t (q + 4) 3 = bd1 (f_X2_isWord t 10) (fun r7 => if (bI r7) = 0 then lp_X2_kindNamed_2 t (q + 3) 4 else some 3) := by
    rw [lp_X2_kindNamed_2, if_neg (by decide), show f_X2_nameOfKind 3 = some 10 by decide, bd1_e]
    rfl
  have s4 : lp_X2_kindNamed_2 t (q + 3) 4 = bd1 (f_X2_isWord t 11) (fun r7 => if (bI r7) = 0 then lp_X2_kindNamed_2 t (q + 2) 5 else some 4) := by
    rw [lp_X2_kindNamed_2, if_neg (by decide), show f_X2_nameOfKind 4 = some 11 by decide, bd1_e]
    rfl
  have s5 : lp_X2_kindNamed_2 t (q + 2) 5 = bd1 (f_X2_isWord t 12) (fun r7 => if (bI r7) = 0 then lp_X2_kindNamed_2 t (q + 1) 6 else some 5) := by
    rw [lp_X2_kindNamed_2, if_neg (by decide), show f_X2_nameOfKind 5 = some 12 by decide, bd1_e]
    rfl
  have s6 : lp_X2_kindNamed_2 t (q + 1) 6 = some (-1) := by
    rw [lp_X2_kindNamed_2, if_pos (by decide)]
  unfold f_X2_kindNamed f_X4_kindHere
  rw [eF]
  simp only [s0, s1, s2, s3, s4, s5, s6, u0, u1, u2, u3, u4, u5, w0, w1, w2, w3, w4, w5, bd1_e]
  rcases Bool.eq_false_or_eq_true B0 with z0 | z0
  · subst z0
    exact ⟨0, rfl, rfl, Or.inr ⟨⟨0, by omega, rfl⟩, hw _ u0⟩⟩
  subst z0
  rcases Bool.eq_false_or_eq_true B1 with z1 | z1
  · subst z1
    exact ⟨1, rfl, rfl, Or.inr ⟨⟨1, by omega, rfl⟩, hw _ u1⟩⟩
  subst z1
  rcases Bool.eq_false_or_eq_true B2 with z2 | z2
  · subst z2
    exact ⟨2, rfl, rfl, Or.inr ⟨⟨2, by omega, rfl⟩, hw _ u2⟩⟩
  subst z2
  rcases Bool.eq_false_or_eq_true B3 with z3 | z3
  · subst z3
    exact ⟨3, rfl, rfl, Or.inr ⟨⟨3, by omega, rfl⟩, hw _ u3⟩⟩
  subst z3
  rcases Bool.eq_false_or_eq_true B4 with z4 | z4
  · subst z4
    exact ⟨4, rfl, rfl, Or.inr ⟨⟨4, by omega, rfl⟩, hw _ u4⟩⟩
  subst z4
  rcases Bool.eq_false_or_eq_true B5 with z5 | z5
  · subst z5
    exact ⟨5, rfl, rfl, Or.inr ⟨⟨5, by omega, rfl⟩, hw _ u5⟩⟩
  subst z5
  exact ⟨-1, rfl, rfl, Or.inl rfl⟩
theorem cue_e {L a b : Nat} {f : FI} {t : TS} {m : MS} (hL : L ≤ 120) (hk : Tk L f t m a b) (e3 : g2_bytes t = f) : ∃ r, f_X2_cueNamed t = some r ∧ f_X4_cueHere m = some r ∧ (r = -1 ∨ (∃ k, k ≤ 4 ∧ r = nI k) ∧ g2_token t = 1) := by
  have hw : ∀ i, f_X2_isWord t i = some true → g2_token t = 1 := by
    intro i h
    unfold f_X2_isWord at h
    by_cases c : g2_token t = 1
    · exact c
    · rw [if_neg c] at h
      exact absurd h (by simp)
  obtain ⟨q, eF⟩ : ∃ q, FU = q + 6 := ⟨FU - 6, by unfold FU; omega⟩
  obtain ⟨B0, u0, w0⟩ := word_e hL hk e3 (i := 5) (by decide) _ wc_5
  obtain ⟨B1, u1, w1⟩ := word_e hL hk e3 (i := 1) (by decide) _ wc_1
  obtain ⟨B2, u2, w2⟩ := word_e hL hk e3 (i := 2) (by decide) _ wc_2
  obtain ⟨B3, u3, w3⟩ := word_e hL hk e3 (i := 3) (by decide) _ wc_3
  obtain ⟨B4, u4, w4⟩ := word_e hL hk e3 (i := 4) (by decide) _ wc_4
  have s0 : lp_X2_cueNamed_2 t (q + 6) 0 = bd1 (f_X2_isWord t 5) (fun r7 => if (bI r7) = 0 then lp_X2_cueNamed_2 t (q + 5) 1 else some 0) := by
    rw [lp_X2_cueNamed_2, if_neg (by decide), show f_X2_nameOfCue 0 = some 5 by decide, bd1_e]
    rfl
  have s1 : lp_X2_cueNamed_2 t (q + 5) 1 = bd1 (f_X2_isWord t 1) (fun r7 => if (bI r7) = 0 then lp_X2_cueNamed_2 t (q + 4) 2 else some 1) := by
    rw [lp_X2_cueNamed_2, if_neg (by decide), show f_X2_nameOfCue 1 = some 1 by decide, bd1_e]
    rfl
  have s2 : lp_X2_cueNamed_2 t (q + 4) 2 = bd1 (f_X2_isWord t 2) (fun r7 => if (bI r7) = 0 then lp_X2_cueNamed_2 t (q + 3) 3 else some 2) := by
    rw [lp_X2_cueNamed_2, if_neg (by decide), show f_X2_nameOfCue 2 = some 2 by decide, bd1_e]
    rfl
  have s3 : lp_X2_cueNamed_2 t (q + 3) 3 = bd1 (f_X2_isWord t 3) (fun r7 => if (bI r7) = 0 then lp_X2_cueNamed_2 t (q + 2) 4 else some 3) := by
    rw [lp_X2_cueNamed_2, if_neg (by decide), show f_X2_nameOfCue 3 = some 3 by decide, bd1_e]
    rfl
  have s4 : lp_X2_cueNamed_2 t (q + 2) 4 = bd1 (f_X2_isWord t 4) (fun r7 => if (bI r7) = 0 then lp_X2_cueNamed_2 t (q + 1) 5 else some 4) := by
    rw [lp_X2_cueNamed_2, if_neg (by decide), show f_X2_nameOfCue 4 = some 4 by decide, bd1_e]
    rfl
  have s5 : lp_X2_cueNamed_2 t (q + 1) 5 = some (-1) := by
    rw [lp_X2_cueNamed_2, if_pos (by decide)]
  unfold f_X2_cueNamed f_X4_cueHere
  rw [eF]
  simp only [s0, s1, s2, s3, s4, s5, u0, u1, u2, u3, u4, w0, w1, w2, w3, w4, bd1_e]
  rcases Bool.eq_false_or_eq_true B0 with z0 | z0
  · subst z0
    exact ⟨0, rfl, rfl, Or.inr ⟨⟨0, by omega, rfl⟩, hw _ u0⟩⟩
  subst z0
  rcases Bool.eq_false_or_eq_true B1 with z1 | z1
  · subst z1
    exact ⟨1, rfl, rfl, Or.inr ⟨⟨1, by omega, rfl⟩, hw _ u1⟩⟩
  subst z1
  rcases Bool.eq_false_or_eq_true B2 with z2 | z2
  · subst z2
    exact ⟨2, rfl, rfl, Or.inr ⟨⟨2, by omega, rfl⟩, hw _ u2⟩⟩
  subst z2
  rcases Bool.eq_false_or_eq_true B3 with z3 | z3
  · subst z3
    exact ⟨3, rfl, rfl, Or.inr ⟨⟨3, by omega, rfl⟩, hw _ u3⟩⟩
  subst z3
  rcases Bool.eq_false_or_eq_true B4 with z4 | z4
  · subst z4
    exact ⟨4, rfl, rfl, Or.inr ⟨⟨4, by omega, rfl⟩, hw _ u4⟩⟩
  subst z4
  exact ⟨-1, rfl, rfl, Or.inl rfl⟩
theorem in_n {k : Nat} {p : Int32} (hk : k < 10000) (h1 : -1 ≤ p.toInt) (h2 : p.toInt ≤ 99) : f_X4_in (lN k) (0 : Int32).toInt64 p.toInt64 = some (decide ((k : Int) ≤ p.toInt)) := by
  have e0 : ((0 : Int32).toInt64).toInt = 0 := by decide
  unfold f_X4_in
  rw [if_neg (by rw [i64_lt, lN_i63 (by omega), e0]; omega)]
  by_cases c : p.toInt64 < lN k
  · rw [if_pos c]
    rw [i64_lt, lN_i63 (by omega), Int32.toInt_toInt64] at c
    rw [decide_eq_false (by omega)]
  · rw [if_neg c]
    rw [i64_lt, lN_i63 (by omega), Int32.toInt_toInt64] at c
    rw [decide_eq_true (by omega)]
/-- a number token: told on both sides, or wrong at the same place -/
theorem num_e {L a b : Nat} {f : FI} {t : TS} {m : MS} {p : Int32} (hL : L ≤ 120) (hk : Tk L f t m a b) (e1 : g2_length t = nI L) (e2 : g4_taped m = nI L) (e3 : g2_bytes t = f) (hf : ∀ i, i < L → f i = g4_tape m i) (hF : g4_fault m = -1) (h1 : -1 ≤ p.toInt) (h2 : p.toInt ≤ 99) : (f_X2_isNumberTo t p = some false ∧ f_X4_numberHere m 0 p = some (0, s4_fault m (nI a))) ∨ (f_X2_isNumberTo t p = some true ∧ ∃ (k : Nat) (t' : TS) (A B C : Int32) (D : Int64) (a' b' : Nat), (k : Int) ≤ p.toInt ∧ g2_number t = nI k ∧ f_X2_take t = some t' ∧ f_X4_numberHere m 0 p = some (nI k, mT m A B C D) ∧ b ≤ a' ∧ Tk L f t' (mT m A B C D) a' b' ∧ g2_bytes t' = f ∧ g2_length t' = nI L) := by
  have hw : f_X4_wrongHere m = some (s4_fault m (nI a)) := by
    unfold f_X4_wrongHere
    rw [jn1_e, jn1_e, hF, if_neg (by decide), hk.2.2.2.1]
  obtain ⟨k1, k2, k3, k4, k5⟩ := hk
  unfold f_X2_isNumberTo f_X4_numberHere
  rcases k5 with ⟨x1, x2⟩ | ⟨x1, x2, -⟩ | ⟨x1, x2, x3, x4, x5⟩ | ⟨x1, x2, -⟩ | ⟨x1, x2⟩
  · left; rw [x1, x2, if_neg (by decide), if_neg (by decide), hw, bd1_e]; exact ⟨rfl, rfl⟩
  · left; rw [x1, x2, if_neg (by decide), if_neg (by decide), hw, bd1_e]; exact ⟨rfl, rfl⟩
  · rw [x1, x2, if_pos rfl, if_pos rfl]
    rcases x5 with ⟨k, hk, y1, y2⟩ | ⟨y1, k, hk, hk2, y2⟩
    · rw [y1, y2, in_n (by omega) h1 h2, bd1_e]
      by_cases c : (k : Int) ≤ p.toInt
      · right
        obtain ⟨t', A, B, C, D, a', b', z1, z2, z3, z4, z5, z6⟩ := take_e hL k2 e1 e2 e3 hf x3 x4
        rw [if_neg (by rw [i32_lt, nI_toInt (by omega)]; omega), decide_eq_true c, if_neg (by decide), z2, bd1_e, lN_i]
        exact ⟨rfl, k, t', A, B, C, D, a', b', c, rfl, z1, rfl, z3, z4, z5, z6⟩
      · left
        rw [if_pos (by rw [i32_lt, nI_toInt (by omega)]; omega), decide_eq_false c, if_pos (by decide), hw, bd1_e]
        exact ⟨rfl, rfl⟩
    · left
      rw [y1, y2, in_n (by omega) h1 h2, bd1_e, if_pos (by rw [i32_lt, nI_toInt (by omega)]; omega), decide_eq_false (by omega), if_pos (by decide), hw, bd1_e]
      exact ⟨rfl, rfl⟩
  · left; rw [x1, x2, if_neg (by decide), if_neg (by decide), hw, bd1_e]; exact ⟨rfl, rfl⟩
  · left; rw [x1, x2, if_neg (by decide), if_neg (by decide), hw, bd1_e]; exact ⟨rfl, rfl⟩
