/-! PURE 9: the sheets -/
theorem isSheet3_e (x : Int32) : f_X3_isSheet x = some (rng x 0 3) := by unfold f_X3_isSheet; rw [isIn_e, bd1_e]
theorem isSheet4_e (x : Int32) : f_X4_isSheet x = some (rng x 0 3) := by unfold f_X4_isSheet; rw [in_0_3, bd1_e]
theorem sh_c (x : Int32) : rng x 0 3 = false ∨ ∃ k, k < 4 ∧ x = nI k ∧ rng x 0 3 = true := by
  cases c : rng x 0 3
  · exact Or.inl rfl
  · obtain ⟨k, hk, e⟩ := rng_nat (n := 3) (by decide) c
    exact Or.inr ⟨k, by omega, e, rfl⟩
theorem ix_num (k i : Nat) : (40 : Int32) * nI k + nI i = nI (40 * k + i) := by
  rw [show (40 : Int32) = nI 40 from rfl, pk_mul, nI_add]
theorem upL_e (f : FL) (k : Nat) (x : Int64) (j : Nat) : vp_updL f k x j = if j = k then x else f j := rfl
theorem up_e {α : Type} (f : Nat → α) (k : Nat) (x : α) (j : Nat) : va_up f k x j = if j = k then x else f j := rfl
theorem layOut_l : ∀ (j P r : Nat) (sh : SS), P + j = 40 → ∃ sh', lp_X1_layOut_20 (r + 1 + j) (nI P) sh = some sh' ∧ g1_bits sh' = g1_bits sh ∧ g1_size sh' = g1_size sh ∧ ∀ i, i < 40 → g1_row sh' i = if P ≤ i then 0 else g1_row sh i := by
  intro j
  induction j with
  | zero =>
    intro P r sh hP
    refine ⟨sh, ?_, rfl, rfl, fun i hi => (if_neg (by omega)).symm⟩
    rw [Nat.add_zero, lp_X1_layOut_20, show P = 40 by omega, if_pos (show (40 : Int32) ≤ nI 40 by decide)]
  | succ j ih =>
    intro P r sh hP
    obtain ⟨sh', e, a, b, c⟩ := ih (P + 1) r (s1_row sh (vp_updL (g1_row sh) P 0)) (by omega)
    refine ⟨sh', ?_, a, b, fun i hi => ?_⟩
    · rw [show r + 1 + (j + 1) = (r + 1 + j) + 1 by omega, lp_X1_layOut_20, if_neg (show ¬ (40 : Int32) ≤ nI P from nle (a := P) (b := 40) (by omega) (by omega) (by omega)), gd_nI (by omega) (by omega), nI_clamp (by omega), jn1_e, nI_1]
      exact e
    · rw [c i hi]
      show (if P + 1 ≤ i then 0 else vp_updL (g1_row sh) P 0 i) = _
      rw [upL_e]
      by_cases c1 : P + 1 ≤ i
      · rw [if_pos c1, if_pos (by omega)]
      · rw [if_neg c1]
        by_cases c2 : i = P
        · rw [if_pos c2, if_pos (by omega)]
        · rw [if_neg c2, if_neg (by omega)]
theorem sheet83_l {k : Nat} (hk : k < 4) : ∀ (j P r : Nat) (m : MS), P + j = 40 → ∃ num : FL, lp_X4_sheet_83 (nI k) (r + 1 + j) (nI P) m = some (g4_sizeOf m k, s4_number m num) ∧ ∀ q, num q = if 40 * k + P ≤ q ∧ q < 40 * k + 40 then 0 else g4_number m q := by
  intro j
  induction j with
  | zero =>
    intro P r m hP
    refine ⟨g4_number m, ?_, fun q => (if_neg (by omega)).symm⟩
    rw [Nat.add_zero, lp_X4_sheet_83, show P = 40 by omega, if_pos (show (40 : Int32) ≤ nI 40 by decide), gd_nI hk (by omega), nI_clamp (by omega)]
    rfl
  | succ j ih =>
    intro P r m hP
    obtain ⟨num, e, c⟩ := ih (P + 1) r (s4_number m (vp_updL (g4_number m) (40 * k + P) 0)) (by omega)
    refine ⟨num, ?_, fun q => ?_⟩
    · rw [show r + 1 + (j + 1) = (r + 1 + j) + 1 by omega, lp_X4_sheet_83, if_neg (show ¬ (40 : Int32) ≤ nI P from nle (a := P) (b := 40) (by omega) (by omega) (by omega)), ix_num, gd_nI (by omega) (by omega), nI_clamp (by omega), jn1_e, nI_1]
      exact e
    · rw [c q]
      show (if 40 * k + (P + 1) ≤ q ∧ q < 40 * k + 40 then 0 else vp_updL (g4_number m) (40 * k + P) 0 q) = _
      rw [upL_e]
      by_cases c1 : 40 * k + (P + 1) ≤ q ∧ q < 40 * k + 40
      · rw [if_pos c1, if_pos (by omega)]
      · rw [if_neg c1]
        by_cases c2 : q = 40 * k + P
        · rw [if_pos c2, if_pos (by omega)]
        · rw [if_neg c2, if_neg (by omega)]
theorem sheet_do {n : NS} {m : MS} {k : Nat} (h : Rel n m) (hk : k < 4) (p2 p3 : Int32) (h3 : 0 ≤ p3) (h4 : p3 ≤ 40) : Op2 (bd1 (f_X1_layOut (g3_sheets n k) p2 p3) (fun s13 => jn1 (s3_sheets n (va_up (g3_sheets n) k s13)) (fun n_14 => gd (nI k) 4 (some (g1_size (g3_sheets n_14 k), n_14))))) (jn1 (s4_bitsOf m (upd (g4_bitsOf m) k p2)) (fun m_11 => jn1 (if p2 = 0 then (0 : Int32) else p3) (fun x13 => gd (nI k) 4 (jn1 (s4_sizeOf m_11 (upd (g4_sizeOf m_11) k x13)) (fun m_17 => lp_X4_sheet_83 (nI k) FU 0 m_17))))) := by
  obtain ⟨r, e⟩ := FU_1 40 (by omega)
  obtain ⟨X, hX⟩ : ∃ X, X = (if p2 = 0 then (0 : Int32) else p3) := ⟨_, rfl⟩
  have hz : ∃ z : Nat, z ≤ 40 ∧ X = nI z := by
    by_cases c : p2 = 0
    · exact ⟨0, by omega, by rw [hX, if_pos c]; rfl⟩
    · rw [if_neg c] at hX
      obtain ⟨z, hz, e⟩ := rng_nat (x := p3) (b := 40) (n := 40) (by decide) (rng_t.mpr ⟨h3, h4⟩)
      exact ⟨z, hz, hX.trans e⟩
  obtain ⟨sh', e1, a, b, c⟩ := layOut_l 40 0 r (s1_size (s1_bits (g3_sheets n k) p2) X) (by omega)
  obtain ⟨num, e2, d⟩ := sheet83_l hk 40 0 r (s4_sizeOf (s4_bitsOf m (upd (g4_bitsOf m) k p2)) (upd (g4_sizeOf m) k X)) (by omega)
  have e1' : f_X1_layOut (g3_sheets n k) p2 p3 = some sh' := by
    unfold f_X1_layOut
    rw [jn1_e, jn1_e, jn1_e, ← hX, e]
    exact e1
  rw [e1', jn1_e, jn1_e, bd1_e, jn1_e, gd_nI hk (by omega), gd_nI hk (by omega), jn1_e, ← hX, e]
  obtain ⟨h1, h2, h3', h4', h5, h6⟩ := h
  refine ⟨X, s3_sheets n (va_up (g3_sheets n) k sh'), s4_number (s4_sizeOf (s4_bitsOf m (upd (g4_bitsOf m) k p2)) (upd (g4_sizeOf m) k X)) num, ?_, e2.trans ?_, h1, h2, h3', h4', h5, ?_⟩
  · show some (g1_size (va_up (g3_sheets n) k sh' k), _) = _
    rw [up_e, if_pos rfl, b]
    rfl
  · show some (upd (g4_sizeOf m) k X k, _) = _
    rw [upd_s]
  · intro q hq
    show g1_bits (va_up (g3_sheets n) k sh' q) = upd (g4_bitsOf m) k p2 q ∧ g1_size (va_up (g3_sheets n) k sh' q) = upd (g4_sizeOf m) k X q ∧ (∃ z : Nat, z ≤ 40 ∧ upd (g4_sizeOf m) k X q = nI z) ∧ ∀ i, i < 40 → g1_row (va_up (g3_sheets n) k sh' q) i = num (40 * q + i)
    rw [up_e, upd_e, upd_e]
    by_cases cq : q = k
    · rw [if_pos cq, if_pos cq, if_pos cq]
      refine ⟨a, b, hz, fun i hi => ?_⟩
      rw [c i hi, d, if_pos (by omega), if_pos (by omega)]
    · rw [if_neg cq, if_neg cq, if_neg cq]
      obtain ⟨a1, a2, a3, a4⟩ := h6 q hq
      refine ⟨a1, a2, a3, fun i hi => ?_⟩
      rw [d, if_neg (by omega)]
      exact a4 i hi
theorem op_sheet {n : NS} {m : MS} (h : Rel n m) (p1 p2 p3 : Int32) : Op2 (f_X3_sheet n p1 p2 p3) (f_X4_sheet m p1 p2 p3) := by
  unfold f_X3_sheet f_X4_sheet
  obtain ⟨F, hF⟩ : ∃ F, F = FU := ⟨_, rfl⟩
  rw [← hF]
  simp only [isSheet3_e, isSheet4_e, bd1_e, bI_0]
  rcases sh_c p1 with c1 | ⟨k, hk, rfl, c1⟩
  · simp only [c1, if_true, if_false, reduceCtorEq, bd1_e, bd2_e, bd3_e, jn1_e, jn2_e, bI_0]; exact op_f0 h
  simp only [c1, if_true, if_false, reduceCtorEq, nI_clamp (show k < 2 ^ 31 by omega)]
  rw [hF]
  have g : ∀ (o : 0 ≤ p3) (o2 : p3 ≤ 40), _ := fun o o2 => sheet_do h hk p2 p3 o o2
  have w : ∀ {A3 : Option (Int32 × NS)} {A4 : Option (Int32 × MS)}, (0 ≤ p3 → p3 ≤ 40 → Op2 A3 A4) → Op2 (if 0 ≤ p3 then if p3 ≤ 40 then A3 else bd2 (f_X3_finding n (-1000000001)) (fun r n => some (r, n)) else bd2 (f_X3_finding n (-1000000007)) (fun r n => some (r, n))) (if 0 ≤ p3 then if p3 ≤ 40 then A4 else bd2 (f_X4_finds m 0) (fun r m => some (r, m)) else bd2 (f_X4_finds m 6) (fun r m => some (r, m))) := by
    intro A3 A4 hA
    by_cases c : 0 ≤ p3
    · rw [if_pos c, if_pos c]
      by_cases c2 : p3 ≤ 40
      · rw [if_pos c2, if_pos c2]; exact hA c c2
      · rw [if_neg c2, if_neg c2]; exact op_f0 h
    · rw [if_neg c, if_neg c]; exact op_f6 h
  have x : ∀ {A : Option (Int32 × NS)}, gd (nI k) 4 A = A := gd_nI hk (by omega)
  have y : ∀ {A : Option (Int32 × MS)}, gd (nI k) 4 A = A := gd_nI hk (by omega)
  by_cases d0 : p2 = 0
  · rw [if_pos d0, if_pos d0]
    refine w (fun o o2 => ?_)
    rw [x, y]
    exact g o o2
  rw [if_neg d0, if_neg d0]
  by_cases d1 : p2 = 8
  · rw [if_pos d1, if_pos d1]
    refine w (fun o o2 => ?_)
    rw [x, y]
    exact g o o2
  rw [if_neg d1, if_neg d1]
  by_cases d2 : p2 = 16
  · rw [if_pos d2, if_pos d2]
    refine w (fun o o2 => ?_)
    rw [x, y]
    exact g o o2
  rw [if_neg d2, if_neg d2]
  by_cases d3 : p2 = 64
  · rw [if_pos d3, if_pos d3]
    refine w (fun o o2 => ?_)
    rw [x, y]
    exact g o o2
  rw [if_neg d3, if_neg d3]
  exact op_f0 h
def cutv (b : Int32) (v : Int64) : Int64 := if b = 8 then v.toInt32.toInt8.toInt32.toInt64 else if b = 16 then v.toInt32.toInt16.toInt32.toInt64 else v
theorem put_e {sh : SS} {i : Nat} (hi : i < 40) (v : Int64) : f_X1_put sh (nI i) v = some (s1_row sh (vp_updL (g1_row sh) i (cutv (g1_bits sh) v))) := by
  unfold f_X1_put cutv
  rw [jn1_e, gd_nI hi (by omega), nI_clamp (by omega), jn1_e]
theorem puts_e {m : MS} {k i : Nat} (hk : k < 4) (hi : i < 40) (v : Int64) : f_X4_puts m (nI k) (nI i) v = some (s4_number m (vp_updL (g4_number m) (40 * k + i) (cutv (g4_bitsOf m k) v))) := by
  have e : (if g4_bitsOf m k = 8 then some v.toInt32.toInt8.toInt32.toInt64 else if g4_bitsOf m k = 16 then some v.toInt32.toInt16.toInt32.toInt64 else some v) = some (cutv (g4_bitsOf m k) v) := by
    unfold cutv
    by_cases c1 : g4_bitsOf m k = 8
    · rw [if_pos c1, if_pos c1]
    · rw [if_neg c1, if_neg c1]
      by_cases c2 : g4_bitsOf m k = 16
      · rw [if_pos c2, if_pos c2]
      · rw [if_neg c2, if_neg c2]
  unfold f_X4_puts
  rw [gd_nI hk (by omega), gd_nI hk (by omega), nI_clamp (show k < 2 ^ 31 by omega), e, bd1_e, ix_num, gd_nI (by omega) (by omega), nI_clamp (by omega), jn1_e]
theorem RS_put {n : NS} {m : MS} (h : RS (g3_sheets n) (g4_bitsOf m) (g4_sizeOf m) (g4_number m)) {k i : Nat} (hk : k < 4) (hi : i < 40) (x : Int64) : RS (va_up (g3_sheets n) k (s1_row (g3_sheets n k) (vp_updL (g1_row (g3_sheets n k)) i x))) (g4_bitsOf m) (g4_sizeOf m) (vp_updL (g4_number m) (40 * k + i) x) := by
  intro q hq
  obtain ⟨a1, a2, a3, a4⟩ := h q hq
  rw [up_e]
  by_cases c : q = k
  · subst c
    rw [if_pos rfl]
    refine ⟨a1, a2, a3, fun j hj => ?_⟩
    show vp_updL (g1_row (g3_sheets n q)) i x j = _
    rw [upL_e, upL_e]
    by_cases c2 : j = i
    · rw [if_pos c2, if_pos (by omega)]
    · rw [if_neg c2, if_neg (by omega)]
      exact a4 j hj
  · rw [if_neg c]
    refine ⟨a1, a2, a3, fun j hj => ?_⟩
    rw [upL_e, if_neg (by omega)]
    exact a4 j hj
theorem Rel_put {n : NS} {m : MS} (h : Rel n m) {k i : Nat} (hk : k < 4) (hi : i < 40) (x : Int64) : Rel (s3_sheets n (va_up (g3_sheets n) k (s1_row (g3_sheets n k) (vp_updL (g1_row (g3_sheets n k)) i x)))) (s4_number m (vp_updL (g4_number m) (40 * k + i) x)) := by
  obtain ⟨h1, h2, h3, h4, h5, h6⟩ := h
  exact ⟨h1, h2, h3, h4, h5, RS_put h6 hk hi x⟩
theorem missing_e (sh : SS) : f_X1_isMissing sh = some (decide (g1_bits sh = 0)) := by
  unfold f_X1_isMissing
  by_cases c : g1_bits sh = 0
  · rw [if_pos c, decide_eq_true c]
  · rw [if_neg c, decide_eq_false c]
def OpL (o3 : Option (Int64 × NS)) (o4 : Option (Int64 × MS)) : Prop := ∃ (r : Int64) (n' : NS) (m' : MS), o3 = some (r, n') ∧ o4 = some (r, m') ∧ Rel n' m'
theorem opL_fnd {n : NS} {m : MS} (h : Rel n m) (k : Nat) (hk : k < 7) (c : Int32) (hc : (-1000000001 : Int32) - nI k = c) (hc2 : (-1000000001 : Int32) - c = nI k) : OpL (bd2 (f_X3_finding n c) (fun r n => some (r.toInt64, n))) (bd2 (f_X4_finds m (nI k)) (fun r m => some (r.toInt64, m))) := by
  obtain ⟨n', m', e1, e2, h'⟩ := fnd h k hk c hc hc2
  exact ⟨c.toInt64, n', m', by rw [e1, bd2_e], by rw [e2, bd2_e], h'⟩
theorem opL_f0 {n : NS} {m : MS} (h : Rel n m) : OpL (bd2 (f_X3_finding n (-1000000001)) (fun r n => some (r.toInt64, n))) (bd2 (f_X4_finds m 0) (fun r m => some (r.toInt64, m))) := opL_fnd h 0 (by decide) _ (by decide) (by decide)
theorem opL_f5 {n : NS} {m : MS} (h : Rel n m) : OpL (bd2 (f_X3_finding n (-1000000006)) (fun r n => some (r.toInt64, n))) (bd2 (f_X4_finds m 5) (fun r m => some (r.toInt64, m))) := opL_fnd h 5 (by decide) _ (by decide) (by decide)
theorem op_write {n : NS} {m : MS} (h : Rel n m) (p1 p2 : Int32) (p3 : Int64) : OpL (f_X3_write n p1 p2 p3) (f_X4_write m p1 p2 p3) := by
  unfold f_X3_write f_X4_write f_X4_whyNone
  simp only [isSheet3_e, isSheet4_e, bd1_e, bI_0]
  rcases sh_c p1 with c1 | ⟨k, hk, rfl, c1⟩
  · simp only [c1, if_true, if_false, reduceCtorEq, bd1_e, bd2_e, bd3_e, jn1_e, jn2_e, bI_0, show (0 : Int32) ≤ 0 by decide, show ¬ (0 : Int32) < 0 by decide]; exact opL_f0 h
  obtain ⟨a1, a2, ⟨z, hz, a3⟩, a4⟩ := h.2.2.2.2.2 k hk
  simp only [c1, if_true, if_false, reduceCtorEq, bd1_e, bd2_e, bd3_e, jn1_e, jn2_e, bI_0, gd_nI hk (show (4 : Nat) < 2 ^ 31 by omega), nI_clamp (show k < 2 ^ 31 by omega), missing_e, a1, a2]
  by_cases c2 : g4_bitsOf m k = 0
  · simp only [c2, if_true, if_false, reduceCtorEq, bd1_e, bd2_e, bd3_e, jn1_e, jn2_e, bI_0, decide_true, show (0 : Int32) ≤ 5 by decide, show ¬ (5 : Int32) < 0 by decide]; exact opL_f5 h
  have hin : f_X4_in p2.toInt64 0 (g4_sizeOf m k - 1).toInt64 = some (rng p2 0 (g4_sizeOf m k - 1)) := in_c 0 _ (by decide) rfl
  simp only [c2, if_true, if_false, reduceCtorEq, bd1_e, bd2_e, bd3_e, jn1_e, jn2_e, bI_0, decide_false, show ¬ (0 : Int32) ≤ -1 by decide, isIn_e, hin]
  cases c3 : rng p2 0 (g4_sizeOf m k - 1)
  · simp only [if_true, if_false, reduceCtorEq, bd1_e, bd2_e, bd3_e, jn1_e, jn2_e, bI_0, show ¬ (0 : Int32) < 0 by decide]; exact opL_f0 h
  have hi : ∃ i, i < 40 ∧ p2 = nI i := by
    obtain ⟨b1, b2⟩ := rng_t.mp c3
    rw [a3] at b2
    rcases Nat.eq_zero_or_pos z with h0 | h0
    · subst h0
      rw [i32_le] at b1 b2
      have e1 : (nI 0 - 1 : Int32).toInt = -1 := by decide
      have e2 : (0 : Int32).toInt = 0 := rfl
      omega
    · obtain ⟨y, rfl⟩ : ∃ y, z = y + 1 := ⟨z - 1, by omega⟩
      rw [nI_pred] at b2
      obtain ⟨i, hi, e⟩ := rng_nat (x := p2) (b := nI y) (n := y) (nI_toInt (by omega)) (rng_t.mpr ⟨b1, b2⟩)
      exact ⟨i, by omega, e⟩
  obtain ⟨i, hi, rfl⟩ := hi
  simp only [if_true, if_false, reduceCtorEq, bd1_e, bd2_e, bd3_e, jn1_e, jn2_e, bI_0, show (-1 : Int32) < 0 by decide, put_e hi, puts_e hk hi, ix_num, gd_nI hi (show (40 : Nat) < 2 ^ 31 by omega), nI_clamp (show i < 2 ^ 31 by omega), gd_nI (show 40 * k + i < 160 by omega) (show (160 : Nat) < 2 ^ 31 by omega), nI_clamp (show 40 * k + i < 2 ^ 31 by omega), a1]
  exact ⟨_, _, _, rfl, congrArg (fun x => some (x, _)) (a4 i hi).symm, Rel_put h hk hi _⟩
