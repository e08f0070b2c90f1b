/-! PURE 12b: numbers, the next token -/
def NR (x : Int32) (v : Int64) : Prop := (∃ k, k < 1000 ∧ x = nI k ∧ v = lN k) ∨ (x = nI 1000 ∧ ∃ k, 1000 ≤ k ∧ k < 10000 ∧ v = lN k)
theorem NR_step {x : Int32} {v : Int64} {c : Nat} (hc : c ≤ 9) (h : NR x v) : NR (if x * 10 + (nI (48 + c) - 48) < 1000 then x * 10 + (nI (48 + c) - 48) else 1000) (if v ≤ 999 then v * 10 + (nI (48 + c)).toInt64 - 48 else v) := by
  have e1 : nI (48 + c) - 48 = nI c := by
    rw [show (48 : Int32) = nI 48 from rfl, pk_sub (by omega)]
    congr 1
    omega
  rw [e1, nI_l (by omega), show (10 : Int32) = nI 10 from rfl, show (1000 : Int32) = nI 1000 from rfl, show (999 : Int64) = lN 999 from rfl, show (10 : Int64) = lN 10 from rfl, show (48 : Int64) = lN 48 from rfl]
  rcases h with ⟨k, hk, rfl, rfl⟩ | ⟨rfl, k, hk, hk2, rfl⟩
  · rw [pk_mul, nI_add, lN_mul, lN_add, lN_sub (by omega), if_pos ((lN_le (by omega) (by omega)).mpr (by omega))]
    by_cases c1 : k * 10 + c < 1000
    · rw [if_pos (nI_lt c1 (by omega))]
      exact Or.inl ⟨k * 10 + c, c1, rfl, by congr 1; omega⟩
    · rw [if_neg (nI_nlt (by omega) (by omega))]
      exact Or.inr ⟨rfl, k * 10 + c, by omega, by omega, by congr 1; omega⟩
  · rw [pk_mul, nI_add, if_neg (nI_nlt (by omega) (by omega)), if_neg (fun z => absurd ((lN_le (by omega) (by omega)).mp z) (by omega))]
    exact Or.inr ⟨rfl, k, hk, hk2, rfl⟩
theorem number_l {L : Nat} {f : FI} (hL : L ≤ 120) : ∀ (j b r : Nat) (t : TS) (m : MS), b + j = L → g2_length t = nI L → g4_taped m = nI L → g2_bytes t = f → (∀ i, i < L → f i = g4_tape m i) → g2_behind t = nI b → g4_at m = nI b → NR (g2_number t) (g4_value m) → ∃ b' x v, b ≤ b' ∧ b' ≤ L ∧ lp_X2_takeNumber_10 (r + 1 + j) t = some (s2_behind (s2_number t x) (nI b')) ∧ lp_X4_next_185 (r + 1 + j) m = some (s4_at (s4_value m v) (nI b')) ∧ NR x v := by
  intro j
  induction j with
  | zero =>
    intro b r t m hj e1 e2 e3 hf e4 e5 e6
    refine ⟨b, g2_number t, g4_value m, Nat.le_refl b, by omega, ?_, ?_, e6⟩
    · rw [Nat.add_zero, lp_X2_takeNumber_10, e1, e4, if_pos (nI_le (by omega) (by omega)), ← e4]
      rfl
    · rw [Nat.add_zero, lp_X4_next_185, e5, byteAt_e hL (by omega) e2, bd1_e, isDigit4_e, bd1_e, show dg0 (bt (g4_tape m) L b) = false by unfold bt; rw [if_neg (by omega)]; decide, if_pos (by decide), ← e5]
      rfl
  | succ j ih =>
    intro b r t m hj e1 e2 e3 hf e4 e5 e6
    have hb : bt (g4_tape m) L b = f b := by
      unfold bt
      rw [if_pos (by omega), hf _ (by omega)]
    have hin : b < 120 := by omega
    cases c : dg0 (f b)
    · refine ⟨b, g2_number t, g4_value m, Nat.le_refl b, by omega, ?_, ?_, e6⟩
      · rw [show r + 1 + (j + 1) = (r + 1 + j) + 1 by omega, lp_X2_takeNumber_10, e1, e4, if_neg (nle (by omega) (by omega) (by omega)), gd_nI hin (by omega), nI_clamp (by omega), e3, isDigit2_e, bd1_e, c, if_pos (by decide), ← e4]
        rfl
      · rw [show r + 1 + (j + 1) = (r + 1 + j) + 1 by omega, lp_X4_next_185, e5, byteAt_e hL (by omega) e2, bd1_e, hb, isDigit4_e, bd1_e, c, if_pos (by decide), ← e5]
        rfl
    · obtain ⟨q, q1, q2⟩ := digit_y c
      have hv : (if (g4_value m) ≤ (999 : Int64) then bd1 (f_X4_byteAt m (g4_at m)) (fun r30 => some (((((g4_value m) * (10 : Int64)) + (r30.toInt64)) - (48 : Int64)))) else some ((g4_value m))) = some (if g4_value m ≤ 999 then g4_value m * 10 + (nI (48 + q)).toInt64 - 48 else g4_value m) := by
        rw [e5, byteAt_e hL (by omega) e2, bd1_e, hb, q2]
        by_cases cv : g4_value m ≤ 999
        · rw [if_pos cv, if_pos cv]
        · rw [if_neg cv, if_neg cv]
      obtain ⟨b', x, v, n1, n2, x1, x2, x3⟩ := ih (b + 1) r (s2_behind (s2_number t (if g2_number t * 10 + (nI (48 + q) - 48) < 1000 then g2_number t * 10 + (nI (48 + q) - 48) else 1000)) (nI (b + 1))) (s4_at (s4_value m (if g4_value m ≤ 999 then g4_value m * 10 + (nI (48 + q)).toInt64 - 48 else g4_value m)) (nI (b + 1))) (by omega) e1 e2 e3 hf rfl rfl (NR_step q1 e6)
      refine ⟨b', x, v, by omega, n2, ?_, ?_, x3⟩
      · rw [show r + 1 + (j + 1) = (r + 1 + j) + 1 by omega, lp_X2_takeNumber_10, e1, e4, if_neg (nle (by omega) (by omega) (by omega)), gd_nI hin (by omega), nI_clamp (by omega), e3, isDigit2_e, bd1_e, c, if_neg (by decide), gd_nI hin (by omega), q2, jn1_e, jn1_e]
        show lp_X2_takeNumber_10 (r + 1 + j) (s2_behind _ (g2_behind t + 1)) = _
        rw [e4, nI_1]
        exact x1
      · rw [show r + 1 + (j + 1) = (r + 1 + j) + 1 by omega, lp_X4_next_185, hv, bd1_e, e5, byteAt_e hL (by omega) e2, bd1_e, hb, isDigit4_e, bd1_e, c, if_neg (by decide), jn1_e, jn1_e]
        show lp_X4_next_185 (r + 1 + j) (s4_at _ (g4_at m + 1)) = _
        rw [e5, nI_1]
        exact x2
/-- the same token on both sides -/
def Tk (L : Nat) (f : FI) (t : TS) (m : MS) (a b : Nat) : Prop := a ≤ b ∧ b ≤ L ∧ g2_first t = nI a ∧ g4_from m = nI a ∧ ((g2_token t = 0 ∧ g4_sort m = 0) ∨ (g2_token t = 1 ∧ g4_sort m = 1 ∧ g2_behind t = nI b ∧ g4_at m = nI b ∧ a < b ∧ g4_value m = lN (wv f a (b - a)) ∧ ∀ j, j < b - a → lt0 (f (a + j)) = true) ∨ (g2_token t = 2 ∧ g4_sort m = 2 ∧ g2_behind t = nI b ∧ g4_at m = nI b ∧ NR (g2_number t) (g4_value m)) ∨ (g2_token t = 3 ∧ g4_sort m = 3 ∧ g2_behind t = nI b ∧ g4_at m = nI b ∧ a < b) ∨ (g2_token t = 4 ∧ g4_sort m = 4))
def mT (m : MS) (A B C : Int32) (D : Int64) : MS := s4_value (s4_from (s4_sort (s4_at m A) B) C) D
theorem take_l {L : Nat} {f : FI} (hL : L ≤ 120) : ∀ (j a r : Nat) (t : TS) (m : MS), a + j = L → g2_length t = nI L → g4_taped m = nI L → g2_bytes t = f → (∀ i, i < L → f i = g4_tape m i) → g2_first t = nI a → g4_at m = nI a → ∃ t' A B C D a' b', lp_X2_take_8 (r + 1 + j) t = some t' ∧ lp_X4_next_0 (r + 1 + j) m = some (mT m A B C D) ∧ a ≤ a' ∧ Tk L f t' (mT m A B C D) a' b' ∧ g2_bytes t' = f ∧ g2_length t' = nI L := by
  intro j
  induction j with
  | zero =>
    intro a r t m hj e1 e2 e3 hf e4 e5
    refine ⟨s2_token (s2_behind t (nI a)) 0, nI a, 0, nI a, 0, a, a, ?_, ?_, Nat.le_refl a, ⟨Nat.le_refl a, by omega, e4, rfl, Or.inl ⟨rfl, rfl⟩⟩, e3, e1⟩
    · have g : ¬ g2_first (s2_behind t (nI a)) < g2_length (s2_behind t (nI a)) := by
        show ¬ g2_first t < g2_length t
        rw [e4, e1]
        exact nI_nlt (by omega) (by omega)
      rw [Nat.add_zero, lp_X2_take_8, e1, e4, if_pos (nI_le (by omega) (by omega)), jn1_e, if_neg g, jn1_e]
    · have hb : bt (g4_tape m) L a = -1 := by
        unfold bt
        rw [if_neg (by omega)]
      have ha : a = L := by omega
      have h5 : f_X4_byteAt (s4_value (s4_from m (nI a)) 0) (g4_at (s4_value (s4_from m (nI a)) 0)) = some (-1) := by
        show f_X4_byteAt (s4_value (s4_from m (nI a)) 0) (g4_at m) = _
        rw [e5, byteAt_e (m := s4_value (s4_from m (nI a)) 0) (L := L) hL (by omega) e2]
        exact congrArg some hb
      have h6 : g4_at (s4_value (s4_from m (nI a)) 0) = g4_taped (s4_value (s4_from m (nI a)) 0) := by
        show g4_at m = g4_taped m
        rw [e5, e2, ha]
      rw [Nat.add_zero, lp_X4_next_0, e5, byteAt_e hL (by omega) e2, bd1_e, hb, if_neg (by decide), jn1_e, jn1_e, h5, bd1_e, if_pos h6, jn1_e, ← e5]
      rfl
  | succ j ih =>
    intro a r t m hj e1 e2 e3 hf e4 e5
    have hin : a < 120 := by omega
    have hb : bt (g4_tape m) L a = f a := by
      unfold bt
      rw [if_pos (by omega), hf _ (by omega)]
    by_cases c : f a = 32
    · obtain ⟨t', A, B, C, D, a', b', x1, x2, x3, x4, x5, x6⟩ := ih (a + 1) r (s2_first t (nI (a + 1))) (s4_at m (nI (a + 1))) (by omega) e1 e2 e3 hf rfl rfl
      refine ⟨t', A, B, C, D, a', b', ?_, ?_, by omega, x4, x5, x6⟩
      · rw [show r + 1 + (j + 1) = (r + 1 + j) + 1 by omega, lp_X2_take_8, e1, e4, if_neg (nle (by omega) (by omega) (by omega)), gd_nI hin (by omega), nI_clamp (by omega), e3, if_pos c, jn1_e, nI_1]
        exact x1
      · rw [show r + 1 + (j + 1) = (r + 1 + j) + 1 by omega, lp_X4_next_0, e5, byteAt_e hL (by omega) e2, bd1_e, hb, if_pos c, jn1_e, nI_1]
        exact x2
    · have g : g2_first (s2_behind t (nI a)) < g2_length (s2_behind t (nI a)) := by
        show g2_first t < g2_length t
        rw [e4, e1]
        exact nI_lt (by omega) (by omega)
      have g1 : g2_first (s2_behind t (nI a)) = nI a := e4
      have g2 : g2_bytes (s2_behind t (nI a)) = f := e3
      have h5 : f_X4_byteAt (s4_value (s4_from m (nI a)) 0) (g4_at (s4_value (s4_from m (nI a)) 0)) = some (f a) := by
        show f_X4_byteAt (s4_value (s4_from m (nI a)) 0) (g4_at m) = _
        rw [e5, byteAt_e (m := s4_value (s4_from m (nI a)) 0) (L := L) hL (by omega) e2]
        exact congrArg some hb
      have h6 : ¬ g4_at (s4_value (s4_from m (nI a)) 0) = g4_taped (s4_value (s4_from m (nI a)) 0) := by
        show ¬ g4_at m = g4_taped m
        rw [e5, e2, nI_eq (by omega) (by omega)]
        omega
      have hc : lp_X2_take_8 (r + 1 + (j + 1)) t = bd1 (f_X2_isLetter (f a)) (fun r32 => if (bI r32) = 0 then (bd1 (f_X2_isDigit (f a)) (fun r36 => if (bI r36) = 0 then some (s2_behind (s2_token (s2_behind t (nI a)) (if f a = 59 then 3 else 4)) (nI (a + 1))) else bd1 (f_X2_takeNumber (s2_behind t (nI a))) (fun t46 => some t46))) else bd1 (f_X2_takeWord (s2_behind t (nI a))) (fun t48 => some t48)) := by
        rw [show r + 1 + (j + 1) = (r + 1 + j) + 1 by omega, lp_X2_take_8, e1, e4, if_neg (nle (by omega) (by omega) (by omega)), gd_nI hin (by omega), nI_clamp (by omega), e3, if_neg c, jn1_e, if_pos g, g1, gd_nI hin (by omega), nI_clamp (by omega), g2, gd_nI hin (by omega), gd_nI hin (by omega)]
        simp only [jn1_e, ← nI_1]
        rfl
      have hm : lp_X4_next_0 (r + 1 + (j + 1)) m = if f a = 59 then some (s4_at (s4_sort (s4_value (s4_from m (nI a)) 0) 3) (nI (a + 1))) else bd1 (f_X4_letter (f a)) (fun r12 => if r12 ≤ 0 then bd1 (f_X4_isDigit (f a)) (fun r15 => if (bI r15) = 0 then some (s4_sort (s4_value (s4_from m (nI a)) 0) 4) else lp_X4_next_185 FU (s4_sort (s4_value (s4_from m (nI a)) 0) 2)) else lp_X4_next_103 FU (s4_sort (s4_value (s4_from m (nI a)) 0) 1)) := by
        obtain ⟨F, hF⟩ : ∃ F, F = FU := ⟨_, rfl⟩
        rw [show r + 1 + (j + 1) = (r + 1 + j) + 1 by omega, lp_X4_next_0, ← hF, e5, byteAt_e hL (by omega) e2, bd1_e, hb, if_neg c, jn1_e, jn1_e, h5, bd1_e, if_neg h6]
        simp only [jn1_e]
        show (if f a = 59 then some (s4_at (s4_sort (s4_value (s4_from m (nI a)) 0) 3) (g4_at m + 1)) else _) = _
        rw [e5, nI_1]
      rw [hc, hm, isLetter_e, bd1_e]
      obtain ⟨q, eF⟩ := FU_1 (L - a) (by omega)
      cases cl : lt0 (f a)
      · rw [if_pos (show bI false = 0 by decide), isDigit2_e, bd1_e, letter_n cl, bd1_e, if_pos (show (0 : Int32) ≤ 0 by decide), isDigit4_e, bd1_e]
        cases cd : dg0 (f a)
        · rw [if_pos (show bI false = 0 by decide)]
          by_cases c59 : f a = 59
          · rw [if_pos c59, if_pos c59]
            exact ⟨_, nI (a + 1), 3, nI a, 0, a, a + 1, rfl, rfl, Nat.le_refl a, ⟨by omega, by omega, e4, rfl, Or.inr (Or.inr (Or.inr (Or.inl ⟨rfl, rfl, rfl, rfl, by omega⟩)))⟩, e3, e1⟩
          · rw [if_neg c59, if_neg c59, if_pos (show bI false = 0 by decide)]
            refine ⟨_, nI a, 4, nI a, 0, a, a + 1, rfl, ?_, Nat.le_refl a, ⟨by omega, by omega, e4, rfl, Or.inr (Or.inr (Or.inr (Or.inr ⟨rfl, rfl⟩)))⟩, e3, e1⟩
            rw [← e5]
            rfl
        · have c59 : ¬ f a = 59 := by
            intro z
            rw [z] at cd
            exact absurd cd (by decide)
          rw [if_neg (show ¬ bI true = 0 by decide), if_neg c59, if_neg (show ¬ bI true = 0 by decide)]
          obtain ⟨b', x, v, n1, n2, x1, x2, x3⟩ := number_l hL (L - a) a q (s2_number (s2_token (s2_behind t (nI a)) 2) 0) (s4_sort (s4_value (s4_from m (nI a)) 0) 2) (by omega) e1 e2 e3 hf rfl e5 (Or.inl ⟨0, by omega, rfl, rfl⟩)
          rw [← eF] at x1 x2
          have x1' : f_X2_takeNumber (s2_behind t (nI a)) = _ := x1
          rw [x1', bd1_e, x2]
          exact ⟨_, nI b', 2, nI a, v, a, b', rfl, rfl, Nat.le_refl a, ⟨n1, n2, e4, rfl, Or.inr (Or.inr (Or.inl ⟨rfl, rfl, rfl, rfl, x3⟩))⟩, e3, e1⟩
      · have c59 : ¬ f a = 59 := by
          intro z
          rw [z] at cl
          exact absurd cl (by decide)
        obtain ⟨w, w1, w2, w3, w4⟩ := letter_y cl
        rw [if_neg (show ¬ bI true = 0 by decide), if_neg c59, w4, bd1_e, if_neg (nI_nle (by omega) (by omega))]
        obtain ⟨n', n1, n2, x1, x2, x3, x4⟩ := word_l (a := a) (f := f) hL (L - a) 0 q (s2_token (s2_behind t (nI a)) 1) (s4_sort (s4_value (s4_from m (nI a)) 0) 1) (by omega) e1 e2 e3 hf rfl e5 rfl (fun j hj => absurd hj (by omega))
        rw [← eF] at x1 x2
        have x1' : f_X2_takeWord (s2_behind t (nI a)) = _ := x1
        have hn : 0 < n' := by
          rcases Nat.eq_zero_or_pos n' with z | z
          · rw [z] at x4
            exact absurd (x4 (by omega)) (by rw [Nat.add_zero, cl]; decide)
          · exact z
        rw [x1', bd1_e, x2]
        exact ⟨_, nI (a + n'), 1, nI a, lN (wv f a n'), a, a + n', rfl, rfl, Nat.le_refl a, ⟨by omega, n2, e4, rfl, Or.inr (Or.inl ⟨rfl, rfl, rfl, rfl, by omega, by rw [Nat.add_sub_cancel_left]; rfl, by rw [Nat.add_sub_cancel_left]; exact x3⟩)⟩, e3, e1⟩
theorem take_e {L b : Nat} {f : FI} {t : TS} {m : MS} (hL : L ≤ 120) (hb : b ≤ L) (e1 : g2_length t = nI L) (e2 : g4_taped m = nI L) (e3 : g2_bytes t = f) (hf : ∀ i, i < L → f i = g4_tape m i) (e4 : g2_behind t = nI b) (e5 : g4_at m = nI b) : ∃ t' A B C D a' b', f_X2_take t = some t' ∧ f_X4_next m = some (mT m A B C D) ∧ b ≤ a' ∧ Tk L f t' (mT m A B C D) a' b' ∧ g2_bytes t' = f ∧ g2_length t' = nI L := by
  obtain ⟨q, eF⟩ := FU_1 (L - b) (by omega)
  have g := take_l hL (L - b) b q (s2_first t (nI b)) m (by omega) e1 e2 e3 hf rfl e5
  rw [← eF] at g
  unfold f_X2_take f_X4_next
  rw [jn1_e, e4]
  exact g
