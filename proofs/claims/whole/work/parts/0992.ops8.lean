/-! PURE 10: lays, book, copy -/
theorem in_L (x : Int64) : f_X4_in x 0 99 = some (decide (¬ x < 0 ∧ ¬ 99 < x)) := by
  unfold f_X4_in
  by_cases h1 : x < 0
  · simp [h1]
  · by_cases h2 : 99 < x <;> simp [h1, h2]
theorem lays_l {k N M z : Nat} (hk : k < 4) (hz : z ≤ 40) : ∀ (j i r : Nat) (v : Int32) (n : NS) (m : MS), i + j = N → Rel n m → HI N M (g4_d m) → RH N (g4_d m) (g3_house n) → g4_sizeOf m k = nI z → Op2 (lp_X3_lays_40 (nI k) (r + 1 + j) (nI i) v n) (lp_X4_lays_21 (nI k) (r + 1 + j) (nI i) v m) := by
  intro j
  induction j with
  | zero =>
    intro i r v n m hi h hI hR hs
    have hN := hI.2.1
    obtain ⟨a1, a2, -, a4⟩ := h.2.2.2.2.2 k hk
    rw [Nat.add_zero, lp_X3_lays_40, lp_X4_lays_21, gd_nI hk (by omega), nI_clamp (show k < 2 ^ 31 by omega), a2, hs, gd0, cl0, hR.1, hI.1, if_pos (show nI N ≤ nI i from nI_le (by omega) (by omega)), if_pos (show nI N ≤ nI i from nI_le (by omega) (by omega))]
    by_cases c : nI z ≤ nI i
    · rw [if_pos c, if_pos c]; exact op_r (n' := n) (m' := m) rfl h
    · rw [if_neg c, if_neg c]; exact op_r (n' := n) (m' := m) rfl h
  | succ j ih =>
    intro i r v n m hi h hI hR hs
    have hN := hI.2.1
    have h8 : i < 8 := by omega
    obtain ⟨a1, a2, -, a4⟩ := h.2.2.2.2.2 k hk
    rw [show r + 1 + (j + 1) = (r + 1 + j) + 1 by omega, lp_X3_lays_40, lp_X4_lays_21, gd_nI hk (by omega), nI_clamp (show k < 2 ^ 31 by omega), a2, hs, gd0, cl0, hR.1, hI.1, if_neg (show ¬ nI N ≤ nI i from nle (by omega) (by omega) (by omega)), if_neg (show ¬ nI N ≤ nI i from nle (by omega) (by omega) (by omega))]
    by_cases c : nI z ≤ nI i
    · rw [if_pos c, if_pos c]; exact op_r (n' := n) (m' := m) rfl h
    rw [if_neg c, if_neg c]
    simp only [ix_num, gd_nI (show i < 40 by omega) (show (40 : Nat) < 2 ^ 31 by omega), gd_nI h8 (show (8 : Nat) < 2 ^ 31 by omega), nI_clamp (show i < 2 ^ 31 by omega), gd_nI (show 40 * k + i < 160 by omega) (show (160 : Nat) < 2 ^ 31 by omega), nI_clamp (show 40 * k + i < 2 ^ 31 by omega), in_L, bd1_e, a4 i (by omega), nI_1, sets1 h8, jn1_e]
    by_cases c1 : g4_number m (40 * k + i) < 0
    · simp only [c1, if_true, if_false, reduceCtorEq, bd1_e, bd2_e, bd3_e, jn1_e, jn2_e, bI_0, not_true, false_and, decide_false]
      exact ih (i + 1) r v n m (by omega) h hI hR hs
    by_cases c2 : 99 < g4_number m (40 * k + i)
    · simp only [c1, c2, if_true, if_false, reduceCtorEq, bd1_e, bd2_e, bd3_e, jn1_e, jn2_e, bI_0, not_true, and_false, decide_false]
      exact ih (i + 1) r v n m (by omega) h hI hR hs
    simp only [c1, c2, if_true, if_false, reduceCtorEq, bd1_e, bd2_e, bd3_e, jn1_e, jn2_e, bI_0, not_false_eq_true, and_self, decide_true]
    obtain ⟨b1, b2⟩ := RHI_f hI hR (show i < N by omega) (g4_number m (40 * k + i)).toInt32
    exact ih (i + 1) r (v + 1) _ _ (by omega) (Rel_house h ⟨N, M, b1, b2⟩) b1 b2 hs
theorem op_lays {n : NS} {m : MS} (h : Rel n m) (p1 : Int32) : Op2 (f_X3_lays n p1) (f_X4_lays m p1) := by
  obtain ⟨N, M, hI, hR⟩ := h.1
  have hN := hI.2.1
  unfold f_X3_lays f_X4_lays f_X4_whyNone
  obtain ⟨F, hF⟩ : ∃ F, F = FU := ⟨_, rfl⟩
  rw [← hF]
  simp only [isSheet3_e, isSheet4_e, bd1_e, bI_0]
  rcases sh_c p1 with c1 | ⟨k, hk, rfl, c1⟩
  · simp only [c1, if_true, if_false, reduceCtorEq, bd1_e, bd2_e, bd3_e, jn1_e, jn2_e, bI_0, show ¬ (0 : Int32) < 0 by decide]; exact op_f0 h
  obtain ⟨a1, a2, ⟨z, hz, a3⟩, a4⟩ := h.2.2.2.2.2 k hk
  simp only [c1, if_true, if_false, reduceCtorEq, bd1_e, bd2_e, bd3_e, jn1_e, jn2_e, bI_0, gd_nI hk (show (4 : Nat) < 2 ^ 31 by omega), nI_clamp (show k < 2 ^ 31 by omega), missing_e, a1]
  by_cases c2 : g4_bitsOf m k = 0
  · simp only [c2, if_true, if_false, reduceCtorEq, bd1_e, bd2_e, bd3_e, jn1_e, jn2_e, bI_0, decide_true, show ¬ (5 : Int32) < 0 by decide]; exact op_f5 h
  simp only [c2, if_true, if_false, reduceCtorEq, bd1_e, bd2_e, bd3_e, jn1_e, jn2_e, bI_0, decide_false, show (-1 : Int32) < 0 by decide]
  obtain ⟨r, e⟩ := FU_1 N (by omega)
  rw [hF, e]
  exact lays_l hk hz N 0 r 0 n m (by omega) h hI hR a3
theorem Lm_o {m ml : MS} {d : FI} (h : Lm m ml d) : g4_sizeOf ml = g4_sizeOf m ∧ g4_bitsOf ml = g4_bitsOf m ∧ g4_number ml = g4_number m := by
  obtain ⟨dg, a, rfl, -, -⟩ := h
  exact ⟨rfl, rfl, rfl⟩
theorem Lm_num {m ml : MS} {d : FI} (h : Lm m ml d) (x : FL) : Lm (s4_number m x) (s4_number ml x) d := by
  obtain ⟨dg, a, rfl, h1, h2⟩ := h
  exact ⟨dg, a, rfl, h1, h2⟩
theorem book_l {k N p z : Nat} (hk : k < 4) (hz : z ≤ 40) (hp : p < N) : ∀ (j i r M : Nat) (n : NS) (t : HS) (m ml : MS) (d : FI), i + j = z → Rel n m → HI N M d → RH N d t → Lm m ml d → g4_sizeOf m k = nI z → Op2 (lp_X3_book_32 (nI k) (nI p) (r + 1 + j) (nI i) (s3_trial n t)) (lp_X4_book_48 (nI k) (nI p) (r + 1 + j) (nI i) ml) := by
  intro j
  induction j with
  | zero =>
    intro i r M n t m ml d hi h hI hT hL hs
    obtain ⟨a1, a2, -, a4⟩ := h.2.2.2.2.2 k hk
    obtain ⟨m8, e8, hL8⟩ := Lm_back hL
    have q1 : g1_size (g3_sheets (s3_trial n t) k) = nI z := a2.trans hs
    rw [Nat.add_zero, lp_X3_book_32, lp_X4_book_48, gd_nI hk (by omega), nI_clamp (show k < 2 ^ 31 by omega), q1, (Lm_o hL).1, hs, if_pos (nI_le (by omega) (by omega)), if_pos (nI_le (by omega) (by omega)), e8, bd1_e, gd_nI hk (by omega), (Lm_o hL8).1, hs]
    exact op_r (n' := n) (m' := m) rfl (Rel_t (Lm_rel h hL8) _)
  | succ j ih =>
    intro i r M n t m ml d hi h hI hT hL hs
    obtain ⟨a1, a2, -, a4⟩ := h.2.2.2.2.2 k hk
    have hN := hI.2.1
    have q1 : g1_size (g3_sheets (s3_trial n t) k) = nI z := a2.trans hs
    have q2 : f_X0_deedOf (g3_trial (s3_trial n t)) (nI p) = some (deed d N M p) := deedOf_e hI hT hp
    have q3 : f_X4_doesNow ml (nI p) = some (deed d N M p) := by
      have e := doesNow_e (m := ml) (N := N) (M := M) (by rw [Lm_d hL]; exact hI) hp
      rw [Lm_d hL] at e
      exact e
    have q4 := puts_e (m := ml) hk (show i < 40 by omega) (deed d N M p).toInt64
    rw [(Lm_o hL).2.1, (Lm_o hL).2.2] at q4
    have q5 := put_e (sh := g3_sheets (s3_trial n t) k) (show i < 40 by omega) (deed d N M p).toInt64
    have q6 : g1_bits (g3_sheets (s3_trial n t) k) = g4_bitsOf m k := a1
    rw [q6] at q5
    obtain ⟨t2, e2, hT2⟩ := go_e hI hT
    have hL2 := Lm_num hL (vp_updL (g4_number m) (40 * k + i) (cutv (g4_bitsOf m k) (deed d N M p).toInt64))
    obtain ⟨m3, e3, hL3⟩ := Lm_step hL2 hI
    rw [show r + 1 + (j + 1) = (r + 1 + j) + 1 by omega, lp_X3_book_32, lp_X4_book_48, gd_nI hk (by omega), nI_clamp (show k < 2 ^ 31 by omega), q1, (Lm_o hL).1, hs, if_neg (nle (by omega) (by omega) (by omega)), if_neg (nle (by omega) (by omega) (by omega)), q2, q3, bd1_e, bd1_e, q4, q5, bd1_e, bd1_e, jn1_e, e3, bd1_e, nI_1]
    have e2' : ∀ X, f_X0_go (g3_trial (s3_sheets (s3_trial n t) X)) = some t2 := fun _ => e2
    rw [e2', bd1_e, jn1_e]
    exact ih (i + 1) r (nxM M) _ t2 _ m3 _ (by omega) (Rel_put (Rel_t h t) hk (by omega) _) (HI_step hI) hT2 hL3 hs
theorem refusal_c {n : NS} {m : MS} {N M : Nat} (h : Rel n m) (hI : HI N M (g4_d m)) (hR : RH N (g4_d m) (g3_house n)) (p1 p2 : Int32) : (f_X3_refusalOf n p1 p2 = some (-1000000001) ∧ ∃ r2, f_X4_whyNone m p1 = some r2 ∧ (if 0 ≤ r2 then some r2 else bd1 (f_X4_isPerson m p2) (fun r8 => if (bI r8) = 0 then some ((0 : Int32)) else some r2)) = some 0) ∨ (f_X3_refusalOf n p1 p2 = some (-1000000006) ∧ ∃ r2, f_X4_whyNone m p1 = some r2 ∧ (if 0 ≤ r2 then some r2 else bd1 (f_X4_isPerson m p2) (fun r8 => if (bI r8) = 0 then some ((0 : Int32)) else some r2)) = some 5) ∨ (f_X3_refusalOf n p1 p2 = some 0 ∧ (∃ r2, f_X4_whyNone m p1 = some r2 ∧ (if 0 ≤ r2 then some r2 else bd1 (f_X4_isPerson m p2) (fun r8 => if (bI r8) = 0 then some ((0 : Int32)) else some r2)) = some (-1)) ∧ ∃ k p, k < 4 ∧ p1 = nI k ∧ p < N ∧ p2 = nI p) := by
  have hN := hI.2.1
  unfold f_X3_refusalOf f_X4_whyNone
  simp only [isSheet3_e, isSheet4_e, bd1_e, bI_0, isThere_e (hR.1.trans hI.1), isPerson_e hI]
  rcases sh_c p1 with c1 | ⟨k, hk, rfl, c1⟩
  · left
    simp only [c1, if_true, if_false, reduceCtorEq, bd1_e, bd2_e, bd3_e, jn1_e, jn2_e, bI_0]
    exact ⟨trivial, 0, rfl, rfl⟩
  obtain ⟨a1, a2, -, a4⟩ := h.2.2.2.2.2 k hk
  simp only [c1, if_true, if_false, reduceCtorEq, bd1_e, bd2_e, bd3_e, jn1_e, jn2_e, bI_0, gd_nI hk (show (4 : Nat) < 2 ^ 31 by omega), nI_clamp (show k < 2 ^ 31 by omega), missing_e, a1]
  by_cases c2 : g4_bitsOf m k = 0
  · right; left
    simp only [c2, if_true, if_false, reduceCtorEq, bd1_e, bd2_e, bd3_e, jn1_e, jn2_e, bI_0, decide_true]
    exact ⟨trivial, 5, rfl, rfl⟩
  simp only [c2, if_true, if_false, reduceCtorEq, bd1_e, bd2_e, bd3_e, jn1_e, jn2_e, bI_0, decide_false]
  rcases pin_c hN p2 with c3 | ⟨p, hp, rfl, c3⟩
  · left
    simp only [c3, if_true, if_false, reduceCtorEq, bd1_e, bd2_e, bd3_e, jn1_e, jn2_e, bI_0]
    exact ⟨trivial, -1, rfl, rfl⟩
  · right; right
    simp only [c3, if_true, if_false, reduceCtorEq, bd1_e, bd2_e, bd3_e, jn1_e, jn2_e, bI_0]
    exact ⟨trivial, ⟨-1, rfl, rfl⟩, k, p, hk, rfl, hp, rfl⟩
theorem op_book {n : NS} {m : MS} (h : Rel n m) (p1 p2 : Int32) : Op2 (f_X3_book n p1 p2) (f_X4_book m p1 p2) := by
  obtain ⟨N, M, hI, hR⟩ := h.1
  have hN := hI.2.1
  unfold f_X3_book f_X4_book
  obtain ⟨F, hF⟩ : ∃ F, F = FU := ⟨_, rfl⟩
  rw [← hF]
  rcases refusal_c h hI hR p1 p2 with ⟨e1, r2, e2, e3⟩ | ⟨e1, r2, e2, e3⟩ | ⟨e1, ⟨r2, e2, e3⟩, k, p, hk, rfl, hp, rfl⟩
  · rw [e1, e2, bd1_e, bd1_e, e3, bd1_e, if_neg (by decide), if_neg (by decide)]; exact op_f0 h
  · rw [e1, e2, bd1_e, bd1_e, e3, bd1_e, if_neg (by decide), if_neg (by decide)]; exact op_f5 h
  · obtain ⟨a1, a2, ⟨z, hz, a3⟩, a4⟩ := h.2.2.2.2.2 k hk
    obtain ⟨t, et, hT⟩ := trial_e hI hR
    obtain ⟨m1, em1, hL1⟩ := Lm_start m
    rw [e1, e2, bd1_e, bd1_e, e3, bd1_e, if_pos rfl, if_pos (by decide), gd_nI hk (by omega), et, em1, bd1_e, bd1_e]
    obtain ⟨r, e⟩ := FU_1 z (by omega)
    rw [hF, e]
    exact book_l hk hz hp z 0 r M n t m m1 _ (by omega) h hI hT hL1 a3
theorem has_e {sh : SS} {z : Nat} (hz : z ≤ 40) (hs : g1_size sh = nI z) (x y : Int32) : f_X1_has sh x y = some (decide (0 ≤ x.toInt ∧ 0 ≤ y.toInt ∧ x.toInt + y.toInt ≤ z)) := by
  unfold f_X1_has
  rw [hs]
  have e0 : (0 : Int32).toInt = 0 := rfl
  have l1 := Int32.toInt_lt x
  by_cases c1 : x < 0
  · rw [if_pos c1]
    rw [i32_lt] at c1
    rw [decide_eq_false (by omega)]
  rw [if_neg c1]
  rw [i32_lt] at c1
  by_cases c2 : y < 0
  · rw [if_pos c2]
    rw [i32_lt] at c2
    rw [decide_eq_false (by omega)]
  rw [if_neg c2]
  rw [i32_lt] at c2
  have e : (nI z - x).toInt = (z : Int) - x.toInt := by
    rw [Int32.toInt_sub, nI_toInt (by omega)]
    unfold Int.bmod
    simp only
    split <;> omega
  by_cases c3 : nI z - x < y
  · rw [if_pos c3]
    rw [i32_lt, e] at c3
    rw [decide_eq_false (by omega)]
  · rw [if_neg c3]
    rw [i32_lt, e] at c3
    rw [decide_eq_true (by omega)]
theorem wd_add (x y : Int32) : (x.toInt64 + y.toInt64).toInt = x.toInt + y.toInt := by
  rw [Int64.toInt_add, Int32.toInt_toInt64, Int32.toInt_toInt64]
  have := Int32.toInt_lt x
  have := Int32.toInt_lt y
  have := Int32.le_toInt x
  have := Int32.le_toInt y
  unfold Int.bmod
  simp only
  split <;> omega
theorem pass_l {a s b dd L : Nat} (ha : a < 4) (hs : s + L ≤ 40) : ∀ (j i r : Nat) (m : MS), i + j = L → ∃ ps : FL, lp_X4_copy_123 (nI a) (nI s) (nI b) (nI dd) (nI L) (r + 1 + j) (nI i) m = lp_X4_copy_160 (nI b) (nI dd) (nI L) FU 0 (s4_passing m ps) ∧ ∀ q, q < L → ps q = if i ≤ q then g4_number m (40 * a + s + q) else g4_passing m q := by
  intro j
  induction j with
  | zero =>
    intro i r m hi
    refine ⟨g4_passing m, ?_, fun q hq => (if_neg (by omega)).symm⟩
    rw [Nat.add_zero, lp_X4_copy_123, if_pos (nI_le (by omega) (by omega))]
    rfl
  | succ j ih =>
    intro i r m hi
    obtain ⟨ps, e, c⟩ := ih (i + 1) r (s4_passing m (vp_updL (g4_passing m) i (g4_number m (40 * a + s + i)))) (by omega)
    refine ⟨ps, ?_, fun q hq => ?_⟩
    · rw [show r + 1 + (j + 1) = (r + 1 + j) + 1 by omega, lp_X4_copy_123, if_neg (nle (by omega) (by omega) (by omega)), ix_num, nI_add, gd_nI (by omega) (by omega), gd_nI (by omega) (by omega), nI_clamp (show i < 2 ^ 31 by omega), nI_clamp (show 40 * a + s + i < 2 ^ 31 by omega), jn1_e, nI_1]
      exact e
    · rw [c q hq]
      show (if i + 1 ≤ q then g4_number m (40 * a + s + q) else vp_updL (g4_passing m) i (g4_number m (40 * a + s + i)) q) = _
      rw [upL_e]
      by_cases c1 : i + 1 ≤ q
      · rw [if_pos c1, if_pos (by omega)]
      · rw [if_neg c1]
        by_cases c2 : q = i
        · rw [if_pos c2, if_pos (by omega), c2]
        · rw [if_neg c2, if_neg (by omega)]
theorem lay_l {b dd L : Nat} (hb : b < 4) (hs : dd + L ≤ 40) : ∀ (j i r : Nat) (m : MS), i + j = L → ∃ num : FL, lp_X4_copy_160 (nI b) (nI dd) (nI L) (r + 1 + j) (nI i) m = some (nI L, s4_number m num) ∧ ∀ q, num q = if 40 * b + dd + i ≤ q ∧ q < 40 * b + dd + L then g4_passing m (q - (40 * b + dd)) else g4_number m q := by
  intro j
  induction j with
  | zero =>
    intro i r m hi
    refine ⟨g4_number m, ?_, fun q => (if_neg (by omega)).symm⟩
    rw [Nat.add_zero, lp_X4_copy_160, if_pos (nI_le (by omega) (by omega))]
    rfl
  | succ j ih =>
    intro i r m hi
    obtain ⟨num, e, c⟩ := ih (i + 1) r (s4_number m (vp_updL (g4_number m) (40 * b + dd + i) (g4_passing m i))) (by omega)
    refine ⟨num, ?_, fun q => ?_⟩
    · rw [show r + 1 + (j + 1) = (r + 1 + j) + 1 by omega, lp_X4_copy_160, if_neg (nle (by omega) (by omega) (by omega)), ix_num, nI_add, gd_nI (by omega) (by omega), gd_nI (by omega) (by omega), nI_clamp (show i < 2 ^ 31 by omega), nI_clamp (show 40 * b + dd + i < 2 ^ 31 by omega), jn1_e, nI_1]
      exact e
    · rw [c q]
      show (if 40 * b + dd + (i + 1) ≤ q ∧ q < 40 * b + dd + L then g4_passing m (q - (40 * b + dd)) else vp_updL (g4_number m) (40 * b + dd + i) (g4_passing m i) q) = _
      rw [upL_e]
      by_cases c1 : 40 * b + dd + (i + 1) ≤ q ∧ q < 40 * b + dd + L
      · rw [if_pos c1, if_pos (by omega)]
      · rw [if_neg c1]
        by_cases c2 : q = 40 * b + dd + i
        · rw [if_pos c2, if_pos (by omega), show q - (40 * b + dd) = i by omega]
        · rw [if_neg c2, if_neg (by omega)]
theorem copy_do {n : NS} {m : MS} {a b s dd L : Nat} (h : Rel n m) (ha : a < 4) (hb : b < 4) (hs : s + L ≤ 40) (hd : dd + L ≤ 40) : Op2 (gc (nI s) (nI dd) (nI L) 40 40 (jn1 (s3_sheets n (va_up (g3_sheets n) b (s1_row (g3_sheets n b) (va_cpy (g1_row (g3_sheets n a)) (g1_row (g3_sheets n b)) (nI s).toNatClampNeg (nI dd).toNatClampNeg (nI L).toNatClampNeg)))) (fun n_34 => some (nI L, n_34)))) (lp_X4_copy_123 (nI a) (nI s) (nI b) (nI dd) (nI L) FU 0 m) := by
  obtain ⟨r, e⟩ := FU_1 L (by omega)
  obtain ⟨ps, e1, c1⟩ := pass_l (b := b) (dd := dd) ha hs L 0 r m (by omega)
  obtain ⟨num, e2, c2⟩ := lay_l hb hd L 0 r (s4_passing m ps) (by omega)
  rw [← e, show nI 0 = (0 : Int32) from rfl] at e1 e2
  rw [e1, e2, nI_clamp (show s < 2 ^ 31 by omega), nI_clamp (show dd < 2 ^ 31 by omega), nI_clamp (show L < 2 ^ 31 by omega)]
  unfold gc
  rw [nI_clamp (show s < 2 ^ 31 by omega), nI_clamp (show dd < 2 ^ 31 by omega), nI_clamp (show L < 2 ^ 31 by omega), if_neg (by
    have x1 := nI_pos (n := s) (by omega)
    have x2 := nI_pos (n := dd) (by omega)
    have x3 := nI_pos (n := L) (by omega)
    rintro (z | z | z | z | z)
    · exact x1 z
    · exact x2 z
    · exact x3 z
    · omega
    · omega), jn1_e]
  obtain ⟨h1, h2, h3, h4, h5, h6⟩ := h
  refine ⟨nI L, _, _, rfl, rfl, h1, h2, h3, h4, h5, fun q hq => ?_⟩
  obtain ⟨a1, a2, a3, a4⟩ := h6 q hq
  show g1_bits (va_up (g3_sheets n) b (s1_row (g3_sheets n b) (va_cpy (g1_row (g3_sheets n a)) (g1_row (g3_sheets n b)) s dd L)) q) = g4_bitsOf m q ∧ g1_size (va_up (g3_sheets n) b (s1_row (g3_sheets n b) (va_cpy (g1_row (g3_sheets n a)) (g1_row (g3_sheets n b)) s dd L)) q) = g4_sizeOf m q ∧ (∃ z : Nat, z ≤ 40 ∧ g4_sizeOf m q = nI z) ∧ ∀ i, i < 40 → g1_row (va_up (g3_sheets n) b (s1_row (g3_sheets n b) (va_cpy (g1_row (g3_sheets n a)) (g1_row (g3_sheets n b)) s dd L)) q) i = num (40 * q + i)
  rw [up_e]
  by_cases cq : q = b
  · subst cq
    rw [if_pos rfl]
    refine ⟨a1, a2, a3, fun i hi => ?_⟩
    show va_cpy (g1_row (g3_sheets n a)) (g1_row (g3_sheets n q)) s dd L i = _
    rw [c2]
    show _ = if 40 * q + dd + 0 ≤ 40 * q + i ∧ 40 * q + i < 40 * q + dd + L then ps (40 * q + i - (40 * q + dd)) else g4_number m (40 * q + i)
    by_cases cc : dd ≤ i ∧ i < dd + L
    · rw [pk_cpy_in cc.1 cc.2, if_pos (by omega), c1 _ (by omega), if_pos (by omega), (h6 a ha).2.2.2 _ (by omega)]
      congr 1
      omega
    · rw [pk_cpy_out (by omega), if_neg (by omega)]
      exact a4 i hi
  · rw [if_neg cq]
    refine ⟨a1, a2, a3, fun i hi => ?_⟩
    rw [c2, if_neg (by omega)]
    exact a4 i hi
theorem copy_no {n : NS} {m : MS} (h : Rel n m) {p2 p4 p5 : Int32} {z y : Nat} (hz : z ≤ 40) (hy : y ≤ 40) (k : ¬ ((0 ≤ p2.toInt ∧ 0 ≤ p5.toInt ∧ p2.toInt + p5.toInt ≤ z) ∧ (0 ≤ p4.toInt ∧ 0 ≤ p5.toInt ∧ p4.toInt + p5.toInt ≤ y))) (A : Option (Int32 × MS)) : Op2 (bd2 (f_X3_finding n (-1000000001)) (fun r n => some (r, n))) (if p2 < 0 then bd2 (f_X4_finds m 0) (fun r m => some (r, m)) else if p4 < 0 then bd2 (f_X4_finds m 0) (fun r m => some (r, m)) else if p5 < 0 then bd2 (f_X4_finds m 0) (fun r m => some (r, m)) else if (nI z).toInt64 < p2.toInt64 + p5.toInt64 then bd2 (f_X4_finds m 0) (fun r m => some (r, m)) else if p4.toInt64 + p5.toInt64 ≤ (nI y).toInt64 then A else bd2 (f_X4_finds m 0) (fun r m => some (r, m))) := by
  have e0 : (0 : Int32).toInt = 0 := rfl
  have ez : (nI z).toInt64.toInt = z := by rw [Int32.toInt_toInt64, nI_toInt (by omega)]
  have ey : (nI y).toInt64.toInt = y := by rw [Int32.toInt_toInt64, nI_toInt (by omega)]
  by_cases q1 : p2 < 0
  · rw [if_pos q1]; exact op_f0 h
  rw [if_neg q1]
  by_cases q2 : p4 < 0
  · rw [if_pos q2]; exact op_f0 h
  rw [if_neg q2]
  by_cases q3 : p5 < 0
  · rw [if_pos q3]; exact op_f0 h
  rw [if_neg q3]
  by_cases q4 : (nI z).toInt64 < p2.toInt64 + p5.toInt64
  · rw [if_pos q4]; exact op_f0 h
  rw [if_neg q4]
  by_cases q5 : p4.toInt64 + p5.toInt64 ≤ (nI y).toInt64
  · exfalso
    rw [i32_lt] at q1 q2 q3
    rw [i64_lt, wd_add, ez] at q4
    rw [i64_le, wd_add, ey] at q5
    apply k
    omega
  · rw [if_neg q5]; exact op_f0 h
theorem op_copy {n : NS} {m : MS} (h : Rel n m) (p1 p2 p3 p4 p5 : Int32) : Op2 (f_X3_copy n p1 p2 p3 p4 p5) (f_X4_copy m p1 p2 p3 p4 p5) := by
  unfold f_X3_copy f_X4_copy
  obtain ⟨F, hF⟩ : ∃ F, F = FU := ⟨_, rfl⟩
  rw [← hF]
  simp only [isSheet3_e, isSheet4_e, bd1_e, bI_0]
  rcases sh_c p1 with c1 | ⟨a, ha, rfl, c1⟩
  · simp only [c1, if_true, if_false, reduceCtorEq, bd1_e, bd2_e, bd3_e, jn1_e, jn2_e, bI_0]; exact op_f0 h
  rcases sh_c p3 with c3 | ⟨b, hb, rfl, c3⟩
  · simp only [c1, c3, if_true, if_false, reduceCtorEq, bd1_e, bd2_e, bd3_e, jn1_e, jn2_e, bI_0]; exact op_f0 h
  obtain ⟨a1, a2, ⟨z, hz, a3⟩, a4⟩ := h.2.2.2.2.2 a ha
  obtain ⟨b1, b2, ⟨y, hy, b3⟩, b4⟩ := h.2.2.2.2.2 b hb
  simp only [c1, c3, if_true, if_false, reduceCtorEq, bd1_e, bd2_e, bd3_e, jn1_e, jn2_e, bI_0, gd_nI ha (show (4 : Nat) < 2 ^ 31 by omega), gd_nI hb (show (4 : Nat) < 2 ^ 31 by omega), nI_clamp (show a < 2 ^ 31 by omega), nI_clamp (show b < 2 ^ 31 by omega), missing_e, a1, b1, has_e hz (a2.trans a3), has_e hy (b2.trans b3), a3, b3]
  by_cases d1 : g4_bitsOf m a = 0
  · simp only [d1, if_true, if_false, reduceCtorEq, bd1_e, bd2_e, bd3_e, jn1_e, jn2_e, bI_0, decide_true]; exact op_f5 h
  by_cases d2 : g4_bitsOf m b = 0
  · simp only [d1, d2, if_true, if_false, reduceCtorEq, bd1_e, bd2_e, bd3_e, jn1_e, jn2_e, bI_0, decide_true, decide_false]; exact op_f5 h
  simp only [d1, d2, if_true, if_false, reduceCtorEq, bd1_e, bd2_e, bd3_e, jn1_e, jn2_e, bI_0, decide_false]
  by_cases d3 : ¬ g4_bitsOf m a = g4_bitsOf m b
  · rw [if_neg d3, if_neg d3]; exact op_f2 h
  have d3 := Decidable.not_not.mp d3
  rw [if_pos d3, if_pos d3]
  have e0 : (0 : Int32).toInt = 0 := rfl
  have ez : (nI z).toInt64.toInt = z := by rw [Int32.toInt_toInt64, nI_toInt (by omega)]
  have ey : (nI y).toInt64.toInt = y := by rw [Int32.toInt_toInt64, nI_toInt (by omega)]
  by_cases k : (0 ≤ p2.toInt ∧ 0 ≤ p5.toInt ∧ p2.toInt + p5.toInt ≤ z) ∧ (0 ≤ p4.toInt ∧ 0 ≤ p5.toInt ∧ p4.toInt + p5.toInt ≤ y)
  · obtain ⟨k1, k2⟩ := k
    rw [decide_eq_true k1, decide_eq_true k2, if_neg (by decide), if_neg (by decide), if_neg (by rw [i32_lt]; omega), if_neg (by rw [i32_lt]; omega), if_neg (by rw [i32_lt]; omega), if_neg (by rw [i64_lt, wd_add, ez]; omega), if_pos (by rw [i64_le, wd_add, ey]; omega)]
    obtain ⟨s, hs, rfl⟩ := nI_of (x := p2) (by rw [i32_lt]; omega)
    obtain ⟨dd, hdd, rfl⟩ := nI_of (x := p4) (by rw [i32_lt]; omega)
    obtain ⟨L, hL, rfl⟩ := nI_of (x := p5) (by rw [i32_lt]; omega)
    rw [nI_toInt hs, nI_toInt hL] at k1
    rw [nI_toInt hdd, nI_toInt hL] at k2
    rw [hF]
    exact copy_do h ha hb (by omega) (by omega)
  by_cases k1 : 0 ≤ p2.toInt ∧ 0 ≤ p5.toInt ∧ p2.toInt + p5.toInt ≤ z
  · have k2 : ¬ (0 ≤ p4.toInt ∧ 0 ≤ p5.toInt ∧ p4.toInt + p5.toInt ≤ y) := fun w => k ⟨k1, w⟩
    rw [decide_eq_true k1, if_neg (by decide), decide_eq_false k2, if_pos (by decide)]
    exact copy_no h hz hy k _
  · rw [decide_eq_false k1, if_pos (by decide)]
    exact copy_no h hz hy k _
