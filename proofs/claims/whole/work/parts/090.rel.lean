/-! THE RELATION between the class's state and the reference's -/
/-- the reference's row d is a house with N people at moment M -/
def HI (N M : Nat) (d : FI) : Prop := d 0 = nI N ∧ N ≤ 8 ∧ d 2 = nI M ∧ M < 16 ∧ ∀ p, p < N → (∃ k, k ≤ 5 ∧ d (35 + 4 * p) = nI k) ∧ -9999 ≤ (d (35 + 4 * p + 2)).toInt ∧ (d (35 + 4 * p + 2)).toInt ≤ 9999
/-- the class's house h is what the row d tells -/
def RH (N : Nat) (d : FI) (h : HS) : Prop := g0_people h = d 0 ∧ g0_night h = d 1 ∧ g0_moment h = d 2 ∧ (∀ i, i < 16 → g0_cues h i = d (3 + i)) ∧ (∀ i, i < 16 → g0_tenses h i = d (19 + i)) ∧ ∀ p, p < N → g0_kinds h p = d (35 + 4 * p) ∧ g0_freshes h p = d (35 + 4 * p + 1) ∧ g0_notes h p = d (35 + 4 * p + 2) ∧ g0_dids h p = d (35 + 4 * p + 3)
def RHI (d : FI) (h : HS) : Prop := ∃ N M, HI N M d ∧ RH N d h
def RT (t : TS) (tape : FI) (taped : Int32) : Prop := ∃ L : Nat, L ≤ 120 ∧ g2_length t = nI L ∧ taped = nI L ∧ ∀ i, i < L → g2_bytes t i = tape i
def RS (sh : Nat → SS) (bits size : FI) (num : FL) : Prop := ∀ k, k < 4 → g1_bits (sh k) = bits k ∧ g1_size (sh k) = size k ∧ (∃ z : Nat, z ≤ 40 ∧ size k = nI z) ∧ ∀ i, i < 40 → g1_row (sh k) i = num (40 * k + i)
def Rel (n : NS) (m : MS) : Prop := RHI (g4_d m) (g3_house n) ∧ g3_keeps n = g4_isKept m ∧ (g4_isKept m = 0 ∨ (g4_isKept m = 1 ∧ RHI (g4_kept m) (g3_kept n))) ∧ (∀ i, i < 7 → g3_found n i = g4_found m i) ∧ RT (g3_tape n) (g4_tape m) (g4_taped m) ∧ RS (g3_sheets n) (g4_bitsOf m) (g4_sizeOf m) (g4_number m)
