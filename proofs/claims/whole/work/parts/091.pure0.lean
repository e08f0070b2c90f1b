/-! PURE 0: numbers, the monad's rows, ranges, findings -/
theorem bd1_e {α ρ : Type} {x : α} {f : α → Option ρ} : bd1 (some x) f = f x := rfl
theorem bd2_e {α β ρ : Type} {x : α} {y : β} {f : α → β → Option ρ} : bd2 (some (x, y)) f = f x y := rfl
theorem bd3_e {α β γ ρ : Type} {x : α} {y : β} {z : γ} {f : α → β → γ → Option ρ} : bd3 (some (x, y, z)) f = f x y z := rfl
theorem jn1_e {α ρ : Type} {x : α} {f : α → Option ρ} : jn1 x f = f x := rfl
theorem jn2_e {α β ρ : Type} {x : α} {y : β} {f : α → β → Option ρ} : jn2 (x, y) f = f x y := rfl
theorem bI_t : bI true = 1 := rfl
theorem bI_f : bI false = 0 := rfl
theorem bI_0 (b : Bool) : (bI b = 0) ↔ b = false := by cases b <;> decide
theorem i32_lt (a b : Int32) : a < b ↔ a.toInt < b.toInt := Int32.lt_iff_toInt_lt
theorem i32_le (a b : Int32) : a ≤ b ↔ a.toInt ≤ b.toInt := Int32.le_iff_toInt_le
theorem i32_eq (a b : Int32) : a = b ↔ a.toInt = b.toInt := Int32.toInt_inj.symm
theorem i64_lt (a b : Int64) : a < b ↔ a.toInt < b.toInt := Int64.lt_iff_toInt_lt
theorem i64_le (a b : Int64) : a ≤ b ↔ a.toInt ≤ b.toInt := Int64.le_iff_toInt_le
theorem i64_eq (a b : Int64) : a = b ↔ a.toInt = b.toInt := Int64.toInt_inj.symm
theorem wd_lt (a b : Int32) : a.toInt64 < b.toInt64 ↔ a < b := by rw [i64_lt, i32_lt, Int32.toInt_toInt64, Int32.toInt_toInt64]
theorem wd_eq (a b : Int32) : a.toInt64 = b.toInt64 ↔ a = b := by rw [i64_eq, i32_eq, Int32.toInt_toInt64, Int32.toInt_toInt64]
/-- a number from a least to a most -/
def rng (x a b : Int32) : Bool := decide (¬ x < a ∧ ¬ b < x)
theorem rng_t {x a b : Int32} : rng x a b = true ↔ a ≤ x ∧ x ≤ b := by
  unfold rng
  rw [decide_eq_true_iff, i32_lt, i32_lt, i32_le, i32_le]
  omega
theorem rng_f {x a b : Int32} : rng x a b = false ↔ x < a ∨ b < x := by
  unfold rng
  rw [decide_eq_false_iff_not, i32_lt, i32_lt]
  omega
theorem isIn_e (x a b : Int32) : f_X3_isIn x a b = some (rng x a b) := by
  unfold f_X3_isIn rng
  by_cases h1 : x < a
  · simp [h1]
  · by_cases h2 : b < x <;> simp [h1, h2]
theorem in_e (x a b : Int32) : f_X4_in x.toInt64 a.toInt64 b.toInt64 = some (rng x a b) := by
  unfold f_X4_in rng
  simp only [wd_lt]
  by_cases h1 : x < a
  · simp [h1]
  · by_cases h2 : b < x <;> simp [h1, h2]
theorem in_c {x : Int32} (a b : Int32) {A B : Int64} (hA : a.toInt64 = A) (hB : b.toInt64 = B) : f_X4_in x.toInt64 A B = some (rng x a b) := by
  rw [← hA, ← hB]
  exact in_e x a b
theorem in_0_15 (x : Int32) : f_X4_in x.toInt64 0 15 = some (rng x 0 15) := in_c 0 15 (by decide) (by decide)
theorem in_0_4 (x : Int32) : f_X4_in x.toInt64 0 4 = some (rng x 0 4) := in_c 0 4 (by decide) (by decide)
theorem in_0_20 (x : Int32) : f_X4_in x.toInt64 0 20 = some (rng x 0 20) := in_c 0 20 (by decide) (by decide)
theorem in_0_1 (x : Int32) : f_X4_in x.toInt64 0 1 = some (rng x 0 1) := in_c 0 1 (by decide) (by decide)
theorem in_0_3 (x : Int32) : f_X4_in x.toInt64 0 3 = some (rng x 0 3) := in_c 0 3 (by decide) (by decide)
theorem in_0_5 (x : Int32) : f_X4_in x.toInt64 0 5 = some (rng x 0 5) := in_c 0 5 (by decide) (by decide)
theorem in_0_99 (x : Int32) : f_X4_in x.toInt64 0 99 = some (rng x 0 99) := in_c 0 99 (by decide) (by decide)
theorem in_m1_6 (x : Int32) : f_X4_in x.toInt64 (-1) 6 = some (rng x (-1) 6) := in_c (-1) 6 (by decide) (by decide)
theorem in_note (x : Int32) : f_X4_in x.toInt64 (-9999) 9999 = some (rng x (-9999) 9999) := in_c (-9999) 9999 (by decide) (by decide)
theorem in_1_200 (x : Int32) : f_X4_in x.toInt64 1 200 = some (rng x 1 200) := in_c 1 200 (by decide) (by decide)
theorem in_0_400 (x : Int32) : f_X4_in x.toInt64 0 400 = some (rng x 0 400) := in_c 0 400 (by decide) (by decide)
theorem in_1_400 (x : Int32) : f_X4_in x.toInt64 1 400 = some (rng x 1 400) := in_c 1 400 (by decide) (by decide)
theorem in_1_100 (x : Int32) : f_X4_in x.toInt64 1 100 = some (rng x 1 100) := in_c 1 100 (by decide) (by decide)
theorem in_1_60 (x : Int32) : f_X4_in x.toInt64 1 60 = some (rng x 1 60) := in_c 1 60 (by decide) (by decide)
theorem in_1_4 (x : Int32) : f_X4_in x.toInt64 1 4 = some (rng x 1 4) := in_c 1 4 (by decide) (by decide)
/-- a number in a range that begins at 0 is a natural number -/
theorem rng_nat {x b : Int32} {n : Nat} (hb : b.toInt = n) (h : rng x 0 b = true) : ∃ j : Nat, j ≤ n ∧ x = nI j := by
  obtain ⟨h1, h2⟩ := rng_t.mp h
  rw [i32_le] at h1
  exact nI_of2 hb (by rw [i32_lt]; omega) h2
theorem rng_nat1 {x a b : Int32} {n : Nat} (ha : 0 ≤ a.toInt) (hb : b.toInt = n) (h : rng x a b = true) : ∃ j : Nat, j ≤ n ∧ a.toInt ≤ j ∧ x = nI j := by
  obtain ⟨h1, h2⟩ := rng_t.mp h
  rw [i32_le] at h1
  have h0 : (0 : Int32).toInt = 0 := rfl
  obtain ⟨j, hj, rfl⟩ := nI_of2 (x := x) hb (by rw [i32_lt]; omega) h2
  refine ⟨j, hj, ?_, rfl⟩
  have hb' : b.toInt < 2 ^ 31 := Int32.toInt_lt b
  rw [nI_toInt (by omega)] at h1
  exact h1
/-- who is there: the same question on both sides -/
def pin (N : Nat) (x : Int32) : Bool := rng x 0 (nI N - 1)
theorem pin_t {N : Nat} (hN : N ≤ 8) {x : Int32} (h : pin N x = true) : ∃ j : Nat, j < N ∧ x = nI j := by
  obtain ⟨h1, h2⟩ := rng_t.mp h
  rcases Nat.eq_zero_or_pos N with h0 | h0
  · subst h0
    rw [i32_le] at h1 h2
    have e1 : (nI 0 - 1 : Int32).toInt = -1 := by decide
    have e2 : (0 : Int32).toInt = 0 := rfl
    omega
  · have e : nI N - 1 = nI (N - 1) := by
      obtain ⟨k, rfl⟩ : ∃ k, N = k + 1 := ⟨N - 1, by omega⟩
      rw [nI_pred]; rfl
    rw [e] at h2
    rw [i32_le] at h1
    obtain ⟨j, hj, rfl⟩ := nI_of2 (x := x) (M := nI (N - 1)) (n := N - 1) (nI_toInt (by omega)) (by rw [i32_lt]; have e2 : (0 : Int32).toInt = 0 := rfl; omega) h2
    exact ⟨j, by omega, rfl⟩
theorem pin_nI {N j : Nat} (hN : N ≤ 8) (h : j < N) : pin N (nI j) = true := by
  refine rng_t.mpr ⟨nI_pos' (by omega), ?_⟩
  have e : nI N - 1 = nI (N - 1) := by
    obtain ⟨k, rfl⟩ : ∃ k, N = k + 1 := ⟨N - 1, by omega⟩
    rw [nI_pred]; rfl
  rw [e]
  exact nI_le (by omega) (by omega)
theorem gd_nI {α : Type} {k n : Nat} {x : Option α} (h : k < n) (hn : n < 2 ^ 31) : gd (nI k) n x = x := gd_in (vp_in_nI h hn)
/-- the places of the reference's row -/
theorem ix_its (p w : Nat) : ((35 : Int32) + (4 : Int32) * nI p) + nI w = nI (35 + 4 * p + w) := by
  rw [show (35 : Int32) = nI 35 from rfl, show (4 : Int32) = nI 4 from rfl, pk_mul, nI_add, nI_add]
theorem ix_who (p : Nat) : (35 : Int32) + (4 : Int32) * nI p = nI (35 + 4 * p) := by
  rw [show (35 : Int32) = nI 35 from rfl, show (4 : Int32) = nI 4 from rfl, pk_mul, nI_add]
theorem ix_cue (i : Nat) : (3 : Int32) + nI i = nI (3 + i) := by rw [show (3 : Int32) = nI 3 from rfl, nI_add]
theorem ix_ten (i : Nat) : (19 : Int32) + nI i = nI (19 + i) := by rw [show (19 : Int32) = nI 19 from rfl, nI_add]
theorem cl0 : (0 : Int32).toNatClampNeg = 0 := rfl
theorem cl1 : (1 : Int32).toNatClampNeg = 1 := rfl
theorem cl2 : (2 : Int32).toNatClampNeg = 2 := rfl
theorem gd0 {α : Type} {x : Option α} : gd (0 : Int32) 67 x = x := rfl
theorem gd1 {α : Type} {x : Option α} : gd (1 : Int32) 67 x = x := rfl
theorem gd2 {α : Type} {x : Option α} : gd (2 : Int32) 67 x = x := rfl
theorem upd_s {f : FI} {k : Nat} {x : Int32} : upd f k x k = x := pk_us
theorem upd_n {f : FI} {k j : Nat} {x : Int32} (h : j ≠ k) : upd f k x j = f j := pk_un h
theorem upd_e (f : FI) (k : Nat) (x : Int32) (j : Nat) : upd f k x j = if j = k then x else f j := by
  by_cases h : j = k
  · subst h; rw [if_pos rfl, upd_s]
  · rw [if_neg h, upd_n h]
theorem FU_s (k : Nat) (h : k < 1000000) : ∃ r, FU = r + 1 + k := ⟨999999 - k, by unfold FU; omega⟩
/-- findings: the two sides tell the same, count the same -/
theorem fnd {n : NS} {m : MS} (h : Rel n m) (k : Nat) (hk : k < 7) (c : Int32) (hc : (-1000000001 : Int32) - nI k = c) (hc2 : (-1000000001 : Int32) - c = nI k) : ∃ (n' : NS) (m' : MS), f_X3_finding n c = some (c, n') ∧ f_X4_finds m (nI k) = some (c, m') ∧ Rel n' m' := by
  obtain ⟨h1, h2, h3, h4, h5, h6⟩ := h
  refine ⟨s3_found n (upd (g3_found n) k (g3_found n k + 1)), s4_found m (upd (g4_found m) k (g4_found m k + 1)), ?_, ?_, h1, h2, h3, ?_, h5, h6⟩
  · unfold f_X3_finding
    have e1 : ¬ nI k < 0 := nI_pos (by omega)
    have e2 : ¬ (7 : Int32) ≤ nI k := nI_ge (a := k) (b := 7) (by omega) (by omega)
    simp only [hc2, jn1_e, if_neg e1, if_neg e2, gd_nI hk (by omega : (7 : Nat) < 2 ^ 31), nI_clamp (show k < 2 ^ 31 by omega), bd1_e]
  · unfold f_X4_finds
    simp only [gd_nI hk (by omega : (7 : Nat) < 2 ^ 31), nI_clamp (show k < 2 ^ 31 by omega), hc, jn1_e]
  · intro i hi
    show upd (g3_found n) k (g3_found n k + 1) i = upd (g4_found m) k (g4_found m k + 1) i
    rw [upd_e, upd_e, h4 i hi, h4 k hk]
