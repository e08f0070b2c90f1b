/-! PURE 12: the evening's text: bytes, words, numbers -/
def bt (f : FI) (L i : Nat) : Int32 := if i < L then f i else -1
theorem byteAt_e {m : MS} {L i : Nat} (hL : L ≤ 120) (hi : i ≤ 120) (e : g4_taped m = nI L) : f_X4_byteAt m (nI i) = some (bt (g4_tape m) L i) := by
  unfold f_X4_byteAt bt
  rw [e]
  by_cases c : i < L
  · rw [if_neg (nle (by omega) (by omega) c), gd_nI (by omega) (by omega), nI_clamp (by omega), if_pos c]
  · rw [if_pos (nI_le (by omega) (by omega)), if_neg c]
def lt0 (x : Int32) : Bool := decide (¬ x < 97 ∧ ¬ 122 < x)
def dg0 (x : Int32) : Bool := decide (¬ x < 48 ∧ ¬ 57 < x)
theorem isLetter_e (x : Int32) : f_X2_isLetter x = some (lt0 x) := by
  unfold f_X2_isLetter lt0
  by_cases h1 : x < 97
  · simp [h1]
  · by_cases h2 : 122 < x <;> simp [h1, h2]
theorem isDigit2_e (x : Int32) : f_X2_isDigit x = some (dg0 x) := by
  unfold f_X2_isDigit dg0
  by_cases h1 : x < 48
  · simp [h1]
  · by_cases h2 : 57 < x <;> simp [h1, h2]
theorem isDigit4_e (x : Int32) : f_X4_isDigit x = some (dg0 x) := by
  unfold f_X4_isDigit dg0
  by_cases h1 : x < 48
  · simp [h1]
  · by_cases h2 : 57 < x <;> simp [h1, h2]
theorem letter_n {x : Int32} (h : lt0 x = false) : f_X4_letter x = some 0 := by
  unfold lt0 at h
  unfold f_X4_letter
  have h := of_decide_eq_false h
  by_cases h1 : x < 97
  · rw [if_pos h1]
  · rw [if_neg h1]
    by_cases h2 : 122 < x
    · rw [if_pos h2]
    · exact absurd ⟨h1, h2⟩ h
theorem letter_y {x : Int32} (h : lt0 x = true) : ∃ c : Nat, 1 ≤ c ∧ c ≤ 26 ∧ x = nI (96 + c) ∧ f_X4_letter x = some (nI c) := by
  obtain ⟨h1, h2⟩ := of_decide_eq_true h
  have e1 : (97 : Int32).toInt = 97 := by decide
  have e2 : (122 : Int32).toInt = 122 := by decide
  have g1 := h1
  have g2 := h2
  rw [i32_lt] at g1 g2
  obtain ⟨j, hj, rfl⟩ := nI_of (x := x) (by rw [i32_lt, show (0 : Int32).toInt = 0 from rfl]; omega)
  rw [nI_toInt hj] at g1 g2
  refine ⟨j - 96, by omega, by omega, by congr 1; omega, ?_⟩
  unfold f_X4_letter
  rw [if_neg h1, if_neg h2, show (97 : Int32) = nI 97 from rfl, pk_sub (by omega), nI_1]
  congr 2
  omega
theorem digit_y {x : Int32} (h : dg0 x = true) : ∃ c : Nat, c ≤ 9 ∧ x = nI (48 + c) := by
  obtain ⟨h1, h2⟩ := of_decide_eq_true h
  have e1 : (48 : Int32).toInt = 48 := by decide
  have e2 : (57 : Int32).toInt = 57 := by decide
  rw [i32_lt] at h1 h2
  obtain ⟨j, hj, rfl⟩ := nI_of (x := x) (by rw [i32_lt, show (0 : Int32).toInt = 0 from rfl]; omega)
  rw [nI_toInt hj] at h1 h2
  exact ⟨j - 48, by omega, by congr 1; omega⟩
def cN (x : Int32) : Nat := x.toNatClampNeg - 96
theorem cN_e {c : Nat} (h : c ≤ 26) : cN (nI (96 + c)) = c := by
  unfold cN
  rw [nI_clamp (by omega)]
  omega
theorem lN_i63 {n : Nat} (h : n < 2 ^ 63) : (lN n).toInt = n := Int64.toInt_ofNat_of_lt h
/-- what a word's letters come to -/
def wv (f : FI) (a : Nat) : Nat → Nat
  | 0 => 0
  | n + 1 => if wv f a n ≤ 100000000000000000 then wv f a n * 27 + cN (f (a + n)) else wv f a n
theorem wv_small {f : FI} {a : Nat} : ∀ n, (∀ j, j < n → lt0 (f (a + j)) = true) → wv f a n ≤ 2700000000000000026 := by
  intro n
  induction n with
  | zero => intro _; exact Nat.zero_le _
  | succ n ih =>
    intro h
    obtain ⟨c, c1, c2, e, -⟩ := letter_y (h n (by omega))
    have i := ih (fun j hj => h j (by omega))
    rw [wv, e, cN_e c2]
    split <;> omega
theorem word_l {a L : Nat} {f : FI} (hL : L ≤ 120) : ∀ (j n r : Nat) (t : TS) (m : MS), a + n + j = L → g2_length t = nI L → g4_taped m = nI L → g2_bytes t = f → (∀ i, i < L → f i = g4_tape m i) → g2_behind t = nI (a + n) → g4_at m = nI (a + n) → g4_value m = lN (wv f a n) → (∀ j, j < n → lt0 (f (a + j)) = true) → ∃ n', n ≤ n' ∧ a + n' ≤ L ∧ lp_X2_takeWord_5 (r + 1 + j) t = some (s2_behind t (nI (a + n'))) ∧ lp_X4_next_103 (r + 1 + j) m = some (s4_at (s4_value m (lN (wv f a n'))) (nI (a + n'))) ∧ (∀ j, j < n' → lt0 (f (a + j)) = true) ∧ (a + n' < L → lt0 (f (a + n')) = false) := by
  intro j
  induction j with
  | zero =>
    intro n r t m hj e1 e2 e3 hf e4 e5 e6 hw
    refine ⟨n, Nat.le_refl n, by omega, ?_, ?_, hw, fun z => absurd z (by omega)⟩
    · rw [Nat.add_zero, lp_X2_takeWord_5, e1, e4, if_pos (nI_le (by omega) (by omega)), ← e4]
      rfl
    · rw [Nat.add_zero, lp_X4_next_103, e5, byteAt_e hL (by omega) e2, bd1_e, letter_n (by unfold bt; rw [if_neg (by omega)]; decide), bd1_e, if_pos (by decide), ← e6, ← e5]
      rfl
  | succ j ih =>
    intro n r t m hj e1 e2 e3 hf e4 e5 e6 hw
    have hb : bt (g4_tape m) L (a + n) = f (a + n) := by
      unfold bt
      rw [if_pos (by omega), hf _ (by omega)]
    have hin : a + n < 120 := by omega
    cases c : lt0 (f (a + n))
    · refine ⟨n, Nat.le_refl n, by omega, ?_, ?_, hw, fun _ => c⟩
      · rw [show r + 1 + (j + 1) = (r + 1 + j) + 1 by omega, lp_X2_takeWord_5, e1, e4, if_neg (nle (by omega) (by omega) (by omega)), gd_nI hin (by omega), nI_clamp (by omega), e3, isLetter_e, bd1_e, c, if_pos (by decide), ← e4]
        rfl
      · rw [show r + 1 + (j + 1) = (r + 1 + j) + 1 by omega, lp_X4_next_103, e5, byteAt_e hL (by omega) e2, bd1_e, hb, letter_n c, bd1_e, if_pos (by decide), ← e6, ← e5]
        rfl
    · obtain ⟨q, q1, q2, q3, q4⟩ := letter_y c
      have hw2 : ∀ j, j < n + 1 → lt0 (f (a + j)) = true := by
        intro i hi
        by_cases ci : i = n
        · rw [ci]; exact c
        · exact hw i (by omega)
      have hv : (if g4_value m ≤ (100000000000000000 : Int64) then bd1 (f_X4_byteAt m (g4_at m)) (fun r45 => bd1 (f_X4_letter r45) (fun r47 => some ((((g4_value m) * (27 : Int64)) + (r47.toInt64))))) else some (g4_value m)) = some (lN (wv f a (n + 1))) := by
        have w := wv_small n hw
        rw [e5, byteAt_e hL (by omega) e2, bd1_e, hb, q4, bd1_e, e6, wv, q3, cN_e q2]
        have g : (lN (wv f a n) ≤ (100000000000000000 : Int64)) ↔ wv f a n ≤ 100000000000000000 := by
          rw [i64_le, lN_i63 (by omega), show (100000000000000000 : Int64).toInt = 100000000000000000 by decide]
          omega
        by_cases cw : wv f a n ≤ 100000000000000000
        · rw [if_pos (g.mpr cw), if_pos cw, nI_l (by omega), show (27 : Int64) = lN 27 from rfl, lN_mul, lN_add]
        · rw [if_neg (fun z => cw (g.mp z)), if_neg cw]
      obtain ⟨n', n1, n2, x1, x2, x3, x4⟩ := ih (n + 1) r (s2_behind t (nI (a + (n + 1)))) (s4_at (s4_value m (lN (wv f a (n + 1)))) (nI (a + (n + 1)))) (by omega) e1 e2 e3 hf rfl rfl rfl hw2
      refine ⟨n', by omega, n2, ?_, ?_, x3, x4⟩
      · rw [show r + 1 + (j + 1) = (r + 1 + j) + 1 by omega, lp_X2_takeWord_5, e1, e4, if_neg (nle (by omega) (by omega) (by omega)), gd_nI hin (by omega), nI_clamp (by omega), e3, isLetter_e, bd1_e, c, if_neg (by decide), jn1_e, nI_1]
        exact x1
      · rw [show r + 1 + (j + 1) = (r + 1 + j) + 1 by omega, lp_X4_next_103, hv, bd1_e, e5, byteAt_e hL (by omega) e2, bd1_e, hb, q4, bd1_e, if_neg (nI_nle (by omega) (by omega)), jn1_e, jn1_e]
        show lp_X4_next_103 (r + 1 + j) (s4_at (s4_value m (lN (wv f a (n + 1)))) (g4_at m + 1)) = _
        rw [e5, nI_1]
        exact x2
