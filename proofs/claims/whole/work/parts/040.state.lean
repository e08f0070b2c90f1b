abbrev HS : Type := Int32 × Int32 × Int32 × FI × FI × FI × FI × FI × FI × FI
def g0_night (h : HS) : Int32 := h.1
def s0_night (h : HS) (v : Int32) : HS := (v, h.2)
def g0_moment (h : HS) : Int32 := h.2.1
def s0_moment (h : HS) (v : Int32) : HS := (h.1, v, h.2.2)
def g0_people (h : HS) : Int32 := h.2.2.1
def s0_people (h : HS) (v : Int32) : HS := (h.1, h.2.1, v, h.2.2.2)
def g0_cues (h : HS) : FI := h.2.2.2.1
def s0_cues (h : HS) (v : FI) : HS := (h.1, h.2.1, h.2.2.1, v, h.2.2.2.2)
def g0_tenses (h : HS) : FI := h.2.2.2.2.1
def s0_tenses (h : HS) (v : FI) : HS := (h.1, h.2.1, h.2.2.1, h.2.2.2.1, v, h.2.2.2.2.2)
def g0_kinds (h : HS) : FI := h.2.2.2.2.2.1
def s0_kinds (h : HS) (v : FI) : HS := (h.1, h.2.1, h.2.2.1, h.2.2.2.1, h.2.2.2.2.1, v, h.2.2.2.2.2.2)
def g0_freshes (h : HS) : FI := h.2.2.2.2.2.2.1
def s0_freshes (h : HS) (v : FI) : HS := (h.1, h.2.1, h.2.2.1, h.2.2.2.1, h.2.2.2.2.1, h.2.2.2.2.2.1, v, h.2.2.2.2.2.2.2)
def g0_notes (h : HS) : FI := h.2.2.2.2.2.2.2.1
def s0_notes (h : HS) (v : FI) : HS := (h.1, h.2.1, h.2.2.1, h.2.2.2.1, h.2.2.2.2.1, h.2.2.2.2.2.1, h.2.2.2.2.2.2.1, v, h.2.2.2.2.2.2.2.2)
def g0_dids (h : HS) : FI := h.2.2.2.2.2.2.2.2.1
def s0_dids (h : HS) (v : FI) : HS := (h.1, h.2.1, h.2.2.1, h.2.2.2.1, h.2.2.2.2.1, h.2.2.2.2.2.1, h.2.2.2.2.2.2.1, h.2.2.2.2.2.2.2.1, v, h.2.2.2.2.2.2.2.2.2)
def g0_deeds (h : HS) : FI := h.2.2.2.2.2.2.2.2.2
def s0_deeds (h : HS) (v : FI) : HS := (h.1, h.2.1, h.2.2.1, h.2.2.2.1, h.2.2.2.2.1, h.2.2.2.2.2.1, h.2.2.2.2.2.2.1, h.2.2.2.2.2.2.2.1, h.2.2.2.2.2.2.2.2.1, v)
abbrev SS : Type := FL × Int32 × Int32
def g1_row (h : SS) : FL := h.1
def s1_row (h : SS) (v : FL) : SS := (v, h.2)
def g1_bits (h : SS) : Int32 := h.2.1
def s1_bits (h : SS) (v : Int32) : SS := (h.1, v, h.2.2)
def g1_size (h : SS) : Int32 := h.2.2
def s1_size (h : SS) (v : Int32) : SS := (h.1, h.2.1, v)
abbrev TS : Type := FI × Int32 × Int32 × Int32 × Int32 × Int32
def g2_bytes (h : TS) : FI := h.1
def s2_bytes (h : TS) (v : FI) : TS := (v, h.2)
def g2_length (h : TS) : Int32 := h.2.1
def s2_length (h : TS) (v : Int32) : TS := (h.1, v, h.2.2)
def g2_first (h : TS) : Int32 := h.2.2.1
def s2_first (h : TS) (v : Int32) : TS := (h.1, h.2.1, v, h.2.2.2)
def g2_behind (h : TS) : Int32 := h.2.2.2.1
def s2_behind (h : TS) (v : Int32) : TS := (h.1, h.2.1, h.2.2.1, v, h.2.2.2.2)
def g2_token (h : TS) : Int32 := h.2.2.2.2.1
def s2_token (h : TS) (v : Int32) : TS := (h.1, h.2.1, h.2.2.1, h.2.2.2.1, v, h.2.2.2.2.2)
def g2_number (h : TS) : Int32 := h.2.2.2.2.2
def s2_number (h : TS) (v : Int32) : TS := (h.1, h.2.1, h.2.2.1, h.2.2.2.1, h.2.2.2.2.1, v)
abbrev MS : Type := FI × FI × FI × FI × Int32 × FI × FI × Int32 × FI × Int32 × Int32 × Int32 × Int64 × Int32 × FI × FI × FL × FL
def g4_d (h : MS) : FI := h.1
def s4_d (h : MS) (v : FI) : MS := (v, h.2)
def g4_e (h : MS) : FI := h.2.1
def s4_e (h : MS) (v : FI) : MS := (h.1, v, h.2.2)
def g4_aside (h : MS) : FI := h.2.2.1
def s4_aside (h : MS) (v : FI) : MS := (h.1, h.2.1, v, h.2.2.2)
def g4_kept (h : MS) : FI := h.2.2.2.1
def s4_kept (h : MS) (v : FI) : MS := (h.1, h.2.1, h.2.2.1, v, h.2.2.2.2)
def g4_isKept (h : MS) : Int32 := h.2.2.2.2.1
def s4_isKept (h : MS) (v : Int32) : MS := (h.1, h.2.1, h.2.2.1, h.2.2.2.1, v, h.2.2.2.2.2)
def g4_found (h : MS) : FI := h.2.2.2.2.2.1
def s4_found (h : MS) (v : FI) : MS := (h.1, h.2.1, h.2.2.1, h.2.2.2.1, h.2.2.2.2.1, v, h.2.2.2.2.2.2)
def g4_tape (h : MS) : FI := h.2.2.2.2.2.2.1
def s4_tape (h : MS) (v : FI) : MS := (h.1, h.2.1, h.2.2.1, h.2.2.2.1, h.2.2.2.2.1, h.2.2.2.2.2.1, v, h.2.2.2.2.2.2.2)
def g4_taped (h : MS) : Int32 := h.2.2.2.2.2.2.2.1
def s4_taped (h : MS) (v : Int32) : MS := (h.1, h.2.1, h.2.2.1, h.2.2.2.1, h.2.2.2.2.1, h.2.2.2.2.2.1, h.2.2.2.2.2.2.1, v, h.2.2.2.2.2.2.2.2)
def g4_doing (h : MS) : FI := h.2.2.2.2.2.2.2.2.1
def s4_doing (h : MS) (v : FI) : MS := (h.1, h.2.1, h.2.2.1, h.2.2.2.1, h.2.2.2.2.1, h.2.2.2.2.2.1, h.2.2.2.2.2.2.1, h.2.2.2.2.2.2.2.1, v, h.2.2.2.2.2.2.2.2.2)
def g4_at (h : MS) : Int32 := h.2.2.2.2.2.2.2.2.2.1
def s4_at (h : MS) (v : Int32) : MS := (h.1, h.2.1, h.2.2.1, h.2.2.2.1, h.2.2.2.2.1, h.2.2.2.2.2.1, h.2.2.2.2.2.2.1, h.2.2.2.2.2.2.2.1, h.2.2.2.2.2.2.2.2.1, v, h.2.2.2.2.2.2.2.2.2.2)
def g4_sort (h : MS) : Int32 := h.2.2.2.2.2.2.2.2.2.2.1
def s4_sort (h : MS) (v : Int32) : MS := (h.1, h.2.1, h.2.2.1, h.2.2.2.1, h.2.2.2.2.1, h.2.2.2.2.2.1, h.2.2.2.2.2.2.1, h.2.2.2.2.2.2.2.1, h.2.2.2.2.2.2.2.2.1, h.2.2.2.2.2.2.2.2.2.1, v, h.2.2.2.2.2.2.2.2.2.2.2)
def g4_from (h : MS) : Int32 := h.2.2.2.2.2.2.2.2.2.2.2.1
def s4_from (h : MS) (v : Int32) : MS := (h.1, h.2.1, h.2.2.1, h.2.2.2.1, h.2.2.2.2.1, h.2.2.2.2.2.1, h.2.2.2.2.2.2.1, h.2.2.2.2.2.2.2.1, h.2.2.2.2.2.2.2.2.1, h.2.2.2.2.2.2.2.2.2.1, h.2.2.2.2.2.2.2.2.2.2.1, v, h.2.2.2.2.2.2.2.2.2.2.2.2)
def g4_value (h : MS) : Int64 := h.2.2.2.2.2.2.2.2.2.2.2.2.1
def s4_value (h : MS) (v : Int64) : MS := (h.1, h.2.1, h.2.2.1, h.2.2.2.1, h.2.2.2.2.1, h.2.2.2.2.2.1, h.2.2.2.2.2.2.1, h.2.2.2.2.2.2.2.1, h.2.2.2.2.2.2.2.2.1, h.2.2.2.2.2.2.2.2.2.1, h.2.2.2.2.2.2.2.2.2.2.1, h.2.2.2.2.2.2.2.2.2.2.2.1, v, h.2.2.2.2.2.2.2.2.2.2.2.2.2)
def g4_fault (h : MS) : Int32 := h.2.2.2.2.2.2.2.2.2.2.2.2.2.1
def s4_fault (h : MS) (v : Int32) : MS := (h.1, h.2.1, h.2.2.1, h.2.2.2.1, h.2.2.2.2.1, h.2.2.2.2.2.1, h.2.2.2.2.2.2.1, h.2.2.2.2.2.2.2.1, h.2.2.2.2.2.2.2.2.1, h.2.2.2.2.2.2.2.2.2.1, h.2.2.2.2.2.2.2.2.2.2.1, h.2.2.2.2.2.2.2.2.2.2.2.1, h.2.2.2.2.2.2.2.2.2.2.2.2.1, v, h.2.2.2.2.2.2.2.2.2.2.2.2.2.2)
def g4_bitsOf (h : MS) : FI := h.2.2.2.2.2.2.2.2.2.2.2.2.2.2.1
def s4_bitsOf (h : MS) (v : FI) : MS := (h.1, h.2.1, h.2.2.1, h.2.2.2.1, h.2.2.2.2.1, h.2.2.2.2.2.1, h.2.2.2.2.2.2.1, h.2.2.2.2.2.2.2.1, h.2.2.2.2.2.2.2.2.1, h.2.2.2.2.2.2.2.2.2.1, h.2.2.2.2.2.2.2.2.2.2.1, h.2.2.2.2.2.2.2.2.2.2.2.1, h.2.2.2.2.2.2.2.2.2.2.2.2.1, h.2.2.2.2.2.2.2.2.2.2.2.2.2.1, v, h.2.2.2.2.2.2.2.2.2.2.2.2.2.2.2)
def g4_sizeOf (h : MS) : FI := h.2.2.2.2.2.2.2.2.2.2.2.2.2.2.2.1
def s4_sizeOf (h : MS) (v : FI) : MS := (h.1, h.2.1, h.2.2.1, h.2.2.2.1, h.2.2.2.2.1, h.2.2.2.2.2.1, h.2.2.2.2.2.2.1, h.2.2.2.2.2.2.2.1, h.2.2.2.2.2.2.2.2.1, h.2.2.2.2.2.2.2.2.2.1, h.2.2.2.2.2.2.2.2.2.2.1, h.2.2.2.2.2.2.2.2.2.2.2.1, h.2.2.2.2.2.2.2.2.2.2.2.2.1, h.2.2.2.2.2.2.2.2.2.2.2.2.2.1, h.2.2.2.2.2.2.2.2.2.2.2.2.2.2.1, v, h.2.2.2.2.2.2.2.2.2.2.2.2.2.2.2.2)
def g4_number (h : MS) : FL := h.2.2.2.2.2.2.2.2.2.2.2.2.2.2.2.2.1
def s4_number (h : MS) (v : FL) : MS := (h.1, h.2.1, h.2.2.1, h.2.2.2.1, h.2.2.2.2.1, h.2.2.2.2.2.1, h.2.2.2.2.2.2.1, h.2.2.2.2.2.2.2.1, h.2.2.2.2.2.2.2.2.1, h.2.2.2.2.2.2.2.2.2.1, h.2.2.2.2.2.2.2.2.2.2.1, h.2.2.2.2.2.2.2.2.2.2.2.1, h.2.2.2.2.2.2.2.2.2.2.2.2.1, h.2.2.2.2.2.2.2.2.2.2.2.2.2.1, h.2.2.2.2.2.2.2.2.2.2.2.2.2.2.1, h.2.2.2.2.2.2.2.2.2.2.2.2.2.2.2.1, v, h.2.2.2.2.2.2.2.2.2.2.2.2.2.2.2.2.2)
def g4_passing (h : MS) : FL := h.2.2.2.2.2.2.2.2.2.2.2.2.2.2.2.2.2
def s4_passing (h : MS) (v : FL) : MS := (h.1, h.2.1, h.2.2.1, h.2.2.2.1, h.2.2.2.2.1, h.2.2.2.2.2.1, h.2.2.2.2.2.2.1, h.2.2.2.2.2.2.2.1, h.2.2.2.2.2.2.2.2.1, h.2.2.2.2.2.2.2.2.2.1, h.2.2.2.2.2.2.2.2.2.2.1, h.2.2.2.2.2.2.2.2.2.2.2.1, h.2.2.2.2.2.2.2.2.2.2.2.2.1, h.2.2.2.2.2.2.2.2.2.2.2.2.2.1, h.2.2.2.2.2.2.2.2.2.2.2.2.2.2.1, h.2.2.2.2.2.2.2.2.2.2.2.2.2.2.2.1, h.2.2.2.2.2.2.2.2.2.2.2.2.2.2.2.2.1, v)
abbrev NS : Type := HS × HS × HS × Int32 × TS × (Nat → SS) × FI
def g3_house (h : NS) : HS := h.1
def s3_house (h : NS) (v : HS) : NS := (v, h.2)
def g3_trial (h : NS) : HS := h.2.1
def s3_trial (h : NS) (v : HS) : NS := (h.1, v, h.2.2)
def g3_kept (h : NS) : HS := h.2.2.1
def s3_kept (h : NS) (v : HS) : NS := (h.1, h.2.1, v, h.2.2.2)
def g3_keeps (h : NS) : Int32 := h.2.2.2.1
def s3_keeps (h : NS) (v : Int32) : NS := (h.1, h.2.1, h.2.2.1, v, h.2.2.2.2)
def g3_tape (h : NS) : TS := h.2.2.2.2.1
def s3_tape (h : NS) (v : TS) : NS := (h.1, h.2.1, h.2.2.1, h.2.2.2.1, v, h.2.2.2.2.2)
def g3_sheets (h : NS) : Nat → SS := h.2.2.2.2.2.1
def s3_sheets (h : NS) (v : Nat → SS) : NS := (h.1, h.2.1, h.2.2.1, h.2.2.2.1, h.2.2.2.2.1, v, h.2.2.2.2.2.2)
def g3_found (h : NS) : FI := h.2.2.2.2.2.2
def s3_found (h : NS) (v : FI) : NS := (h.1, h.2.1, h.2.2.1, h.2.2.2.1, h.2.2.2.2.1, h.2.2.2.2.2.1, v)
def FX0 (a : Nat → Nat) (h : HS) : List Value := [.int (g0_night h), .int (g0_moment h), .int (g0_people h), .ref (a 4), .ref (a 5), .ref (a 6), .ref (a 7), .ref (a 8), .ref (a 9), .ref (a 10)]
def wX0 (E : EV) (a : Nat → Nat) (h : HS) : va_W := [(a 0, .inr (0, FX0 a h)), (a 4, .inl (E.2.1 0, 16, .inl (g0_cues h))), (a 5, .inl (E.2.1 0, 16, .inl (g0_tenses h))), (a 6, .inl (E.2.1 0, 8, .inl (g0_kinds h))), (a 7, .inl (E.2.1 0, 8, .inl (g0_freshes h))), (a 8, .inl (E.2.1 0, 8, .inl (g0_notes h))), (a 9, .inl (E.2.1 0, 8, .inl (g0_dids h))), (a 10, .inl (E.2.1 0, 8, .inl (g0_deeds h)))]
def FX1 (a : Nat → Nat) (h : SS) : List Value := [.ref (a 1), .int (g1_bits h), .int (g1_size h)]
def wX1 (E : EV) (a : Nat → Nat) (h : SS) : va_W := [(a 0, .inr (1, FX1 a h)), (a 1, .inl (E.2.1 1, 40, .inr (.inl (g1_row h))))]
def FX2 (a : Nat → Nat) (h : TS) : List Value := [.ref (a 1), .int (g2_length h), .int (g2_first h), .int (g2_behind h), .int (g2_token h), .int (g2_number h)]
def wX2 (E : EV) (a : Nat → Nat) (h : TS) : va_W := [(a 0, .inr (2, FX2 a h)), (a 1, .inl (E.2.1 2, 120, .inl (g2_bytes h)))]
def FX4 (a : Nat → Nat) (h : MS) : List Value := [.ref (a 1), .ref (a 2), .ref (a 3), .ref (a 4), .int (g4_isKept h), .ref (a 6), .ref (a 7), .int (g4_taped h), .ref (a 9), .int (g4_at h), .int (g4_sort h), .int (g4_from h), .long (g4_value h), .int (g4_fault h), .ref (a 15), .ref (a 16), .ref (a 17), .ref (a 18)]
def wX4 (E : EV) (a : Nat → Nat) (h : MS) : va_W := [(a 0, .inr (4, FX4 a h)), (a 1, .inl (E.2.1 0, 67, .inl (g4_d h))), (a 2, .inl (E.2.1 0, 67, .inl (g4_e h))), (a 3, .inl (E.2.1 0, 67, .inl (g4_aside h))), (a 4, .inl (E.2.1 0, 67, .inl (g4_kept h))), (a 6, .inl (E.2.1 0, 7, .inl (g4_found h))), (a 7, .inl (E.2.1 2, 120, .inl (g4_tape h))), (a 9, .inl (E.2.1 0, 8, .inl (g4_doing h))), (a 15, .inl (E.2.1 0, 4, .inl (g4_bitsOf h))), (a 16, .inl (E.2.1 0, 4, .inl (g4_sizeOf h))), (a 17, .inl (E.2.1 1, 160, .inr (.inl (g4_number h)))), (a 18, .inl (E.2.1 1, 40, .inr (.inl (g4_passing h))))]
def wX3 (E : EV) (a : Nat → Nat → Nat) (n : NS) : va_W := (a 8 0, .inr (3, [.ref (a 0 0), .ref (a 1 0), .ref (a 2 0), .int (g3_keeps n), .ref (a 3 0), .ref (a 8 1), .ref (a 8 2)])) :: (wX0 E (a 2) (g3_kept n) ++ (wX0 E (a 0) (g3_house n) ++ (wX0 E (a 1) (g3_trial n) ++ (wX2 E (a 3) (g3_tape n) ++ ((a 8 1, .inl (E.2.1 3, 4, .inr (.inr (.inr (.inr (fun k => some (a (4 + k) 0))))))) :: (wX1 E (a 4) (g3_sheets n 0) ++ (wX1 E (a 5) (g3_sheets n 1) ++ (wX1 E (a 6) (g3_sheets n 2) ++ (wX1 E (a 7) (g3_sheets n 3) ++ [(a 8 2, .inl (E.2.1 0, 7, .inl (g3_found n)))])))))))))
theorem wst {D : va_G} {cl : List vw_C} {H : Heap} {w w2 : va_W} (h : w = w2) (hP : va_P D cl w H) : va_P D cl w2 H := h ▸ hP
theorem wsd {A : Nat → Prop} {w w2 : va_W} (h : w = w2) (hD : va_D A w) : va_D A w2 := h ▸ hD
theorem ip {α : Type} {c : Prop} [i : Decidable c] {a b o : α} (hc : c) (h : (if c then a else b) = o) : a = o := by rw [if_pos hc] at h; exact h
theorem im {α : Type} {c : Prop} [i : Decidable c] {a b o : α} (hc : ¬ c) (h : (if c then a else b) = o) : b = o := by rw [if_neg hc] at h; exact h
theorem ie {α : Type} {c : Prop} [i : Decidable c] {a b o : α} (hc : c) (h : o = if c then a else b) : o = a := by rw [if_pos hc] at h; exact h
theorem ien {α : Type} {c : Prop} [i : Decidable c] {a b o : α} (hc : ¬ c) (h : o = if c then a else b) : o = b := by rw [if_neg hc] at h; exact h
theorem vp_lt {i : Int32} {n : Nat} (h : vp_in i n) : i.toNatClampNeg < n := Nat.lt_of_not_le (fun q => h (Or.inr q))
def gc {α : Type} (sp dp n : Int32) (n0 n1 : Nat) (x : Option α) : Option α := if sp < 0 ∨ dp < 0 ∨ n < 0 ∨ n0 < sp.toNatClampNeg + n.toNatClampNeg ∨ n1 < dp.toNatClampNeg + n.toNatClampNeg then none else x
theorem gc_some {α : Type} {sp dp n : Int32} {n0 n1 : Nat} {x : Option α} {y : α} (h : gc sp dp n n0 n1 x = some y) : (¬ sp < 0 ∧ ¬ dp < 0 ∧ ¬ n < 0 ∧ sp.toNatClampNeg + n.toNatClampNeg ≤ n0 ∧ dp.toNatClampNeg + n.toNatClampNeg ≤ n1) ∧ x = some y := by
  unfold gc at h
  by_cases c : sp < 0 ∨ dp < 0 ∨ n < 0 ∨ n0 < sp.toNatClampNeg + n.toNatClampNeg ∨ n1 < dp.toNatClampNeg + n.toNatClampNeg
  · rw [if_pos c] at h; cases h
  · rw [if_neg c] at h
    exact ⟨⟨fun q => c (Or.inl q), fun q => c (Or.inr (Or.inl q)), fun q => c (Or.inr (Or.inr (Or.inl q))), Nat.le_of_not_lt (fun q => c (Or.inr (Or.inr (Or.inr (Or.inl q))))), Nat.le_of_not_lt (fun q => c (Or.inr (Or.inr (Or.inr (Or.inr q)))))⟩, h⟩
def bd1 {α ρ : Type} (o : Option (α)) (f : α → Option ρ) : Option ρ := o.bind (fun q => f q)
theorem bd1_some {α ρ : Type} {o : Option (α)} {f : α → Option ρ} {y : ρ} (h : bd1 o f = some y) : ∃ (a0 : α), o = some a0 ∧ f a0 = some y := by
  obtain ⟨q, h1, h2⟩ := Option.bind_eq_some_iff.mp h
  exact ⟨q, h1, h2⟩
def jn1 {α ρ : Type} (e : α) (f : α → Option ρ) : Option ρ := f e
theorem jn1_some {α ρ : Type} {e : α} {f : α → Option ρ} {y : ρ} (h : jn1 e f = some y) : ∃ (a0 : α), a0 = e ∧ f a0 = some y := ⟨e, rfl, h⟩
def bd2 {α β ρ : Type} (o : Option (α × β)) (f : α → β → Option ρ) : Option ρ := o.bind (fun q => f q.1 q.2)
theorem bd2_some {α β ρ : Type} {o : Option (α × β)} {f : α → β → Option ρ} {y : ρ} (h : bd2 o f = some y) : ∃ (a0 : α) (a1 : β), o = some (a0, a1) ∧ f a0 a1 = some y := by
  obtain ⟨q, h1, h2⟩ := Option.bind_eq_some_iff.mp h
  exact ⟨q.1, q.2, h1, h2⟩
def jn2 {α β ρ : Type} (e : α × β) (f : α → β → Option ρ) : Option ρ := f e.1 e.2
theorem jn2_some {α β ρ : Type} {e : α × β} {f : α → β → Option ρ} {y : ρ} (h : jn2 e f = some y) : ∃ (a0 : α) (a1 : β), (a0, a1) = e ∧ f a0 a1 = some y := ⟨e.1, e.2, rfl, h⟩
def bd3 {α β γ ρ : Type} (o : Option (α × β × γ)) (f : α → β → γ → Option ρ) : Option ρ := o.bind (fun q => f q.1 q.2.1 q.2.2)
theorem bd3_some {α β γ ρ : Type} {o : Option (α × β × γ)} {f : α → β → γ → Option ρ} {y : ρ} (h : bd3 o f = some y) : ∃ (a0 : α) (a1 : β) (a2 : γ), o = some (a0, a1, a2) ∧ f a0 a1 a2 = some y := by
  obtain ⟨q, h1, h2⟩ := Option.bind_eq_some_iff.mp h
  exact ⟨q.1, q.2.1, q.2.2, h1, h2⟩
def jn3 {α β γ ρ : Type} (e : α × β × γ) (f : α → β → γ → Option ρ) : Option ρ := f e.1 e.2.1 e.2.2
theorem jn3_some {α β γ ρ : Type} {e : α × β × γ} {f : α → β → γ → Option ρ} {y : ρ} (h : jn3 e f = some y) : ∃ (a0 : α) (a1 : β) (a2 : γ), (a0, a1, a2) = e ∧ f a0 a1 a2 = some y := ⟨e.1, e.2.1, e.2.2, rfl, h⟩
def bd4 {α β γ δ ρ : Type} (o : Option (α × β × γ × δ)) (f : α → β → γ → δ → Option ρ) : Option ρ := o.bind (fun q => f q.1 q.2.1 q.2.2.1 q.2.2.2)
theorem bd4_some {α β γ δ ρ : Type} {o : Option (α × β × γ × δ)} {f : α → β → γ → δ → Option ρ} {y : ρ} (h : bd4 o f = some y) : ∃ (a0 : α) (a1 : β) (a2 : γ) (a3 : δ), o = some (a0, a1, a2, a3) ∧ f a0 a1 a2 a3 = some y := by
  obtain ⟨q, h1, h2⟩ := Option.bind_eq_some_iff.mp h
  exact ⟨q.1, q.2.1, q.2.2.1, q.2.2.2, h1, h2⟩
def jn4 {α β γ δ ρ : Type} (e : α × β × γ × δ) (f : α → β → γ → δ → Option ρ) : Option ρ := f e.1 e.2.1 e.2.2.1 e.2.2.2
theorem jn4_some {α β γ δ ρ : Type} {e : α × β × γ × δ} {f : α → β → γ → δ → Option ρ} {y : ρ} (h : jn4 e f = some y) : ∃ (a0 : α) (a1 : β) (a2 : γ) (a3 : δ), (a0, a1, a2, a3) = e ∧ f a0 a1 a2 a3 = some y := ⟨e.1, e.2.1, e.2.2.1, e.2.2.2, rfl, h⟩
def bd5 {α β γ δ ε ρ : Type} (o : Option (α × β × γ × δ × ε)) (f : α → β → γ → δ → ε → Option ρ) : Option ρ := o.bind (fun q => f q.1 q.2.1 q.2.2.1 q.2.2.2.1 q.2.2.2.2)
theorem bd5_some {α β γ δ ε ρ : Type} {o : Option (α × β × γ × δ × ε)} {f : α → β → γ → δ → ε → Option ρ} {y : ρ} (h : bd5 o f = some y) : ∃ (a0 : α) (a1 : β) (a2 : γ) (a3 : δ) (a4 : ε), o = some (a0, a1, a2, a3, a4) ∧ f a0 a1 a2 a3 a4 = some y := by
  obtain ⟨q, h1, h2⟩ := Option.bind_eq_some_iff.mp h
  exact ⟨q.1, q.2.1, q.2.2.1, q.2.2.2.1, q.2.2.2.2, h1, h2⟩
def jn5 {α β γ δ ε ρ : Type} (e : α × β × γ × δ × ε) (f : α → β → γ → δ → ε → Option ρ) : Option ρ := f e.1 e.2.1 e.2.2.1 e.2.2.2.1 e.2.2.2.2
theorem jn5_some {α β γ δ ε ρ : Type} {e : α × β × γ × δ × ε} {f : α → β → γ → δ → ε → Option ρ} {y : ρ} (h : jn5 e f = some y) : ∃ (a0 : α) (a1 : β) (a2 : γ) (a3 : δ) (a4 : ε), (a0, a1, a2, a3, a4) = e ∧ f a0 a1 a2 a3 a4 = some y := ⟨e.1, e.2.1, e.2.2.1, e.2.2.2.1, e.2.2.2.2, rfl, h⟩
theorem rt_a {p : Program} {l : Launch} {e : Env} {R : Room} {s : State} {m : MethodId} {args : Array Value} {below : List Frame} {meth : Method} {c : Code} {H : Heap} {locs : List Loc} {pc : Nat} {ls : Array Slot} {E : EV} {A : Nat → Prop} {w1 : va_W} {cc : ByteArray} {v : Nat} {rt : FieldType} (hrt : (∃ n, rt = .object n) ∨ ∃ t, rt = .array t) (hx : p.tables.exec = Jvm.exec) (hb : c.code = cc) (hr : meth.sig.returnType = some rt) (hlocks : meth.locks = false) (hP : va_P E.1 vwCl w1 H) (hD : va_D A w1) (hS : va_S A s.heap H locs) (hdg : decode cc pc = .ok (.areturn, 1)) : W p l e R s m args below meth c H locs 0 0 (MQ below (Qct E A w1 (some (.ref v))) args s 0 0 A) (F0 m pc ls [.ref v]) :=
  W.aret hx hb hr hrt (Or.inr ⟨v, rfl⟩) (fun t ht _ => ⟨rfl, by rw [ht]; exact hP, hD, hS.F ht⟩) hS.2.2 hdg hlocks
theorem k4 {P : Nat → Prop} (h0 : P 0) (h1 : P 1) (h2 : P 2) (h3 : P 3) {k : Nat} (hk : k < 4) : P k := by
  rcases (show k = 0 ∨ k = 1 ∨ k = 2 ∨ k = 3 by omega) with rfl | rfl | rfl | rfl
  · exact h0
  · exact h1
  · exact h2
  · exact h3
theorem wX3_sh (E : EV) (a : Nat → Nat → Nat) (n : NS) {k : Nat} (hk : k < 4) : (wX3 E a n)[28 + 2 * k]? = some (a (4 + k) 0, .inr (1, [.ref (a (4 + k) 1), .int (g1_bits (g3_sheets n k)), .int (g1_size (g3_sheets n k))])) := k4 (P := fun k => (wX3 E a n)[28 + 2 * k]? = some (a (4 + k) 0, .inr (1, [.ref (a (4 + k) 1), .int (g1_bits (g3_sheets n k)), .int (g1_size (g3_sheets n k))]))) rfl rfl rfl rfl hk
theorem wX3_row (E : EV) (a : Nat → Nat → Nat) (n : NS) {k : Nat} (hk : k < 4) : (wX3 E a n)[29 + 2 * k]? = some (a (4 + k) 1, .inl (E.2.1 1, 40, .inr (.inl (g1_row (g3_sheets n k))))) := k4 (P := fun k => (wX3 E a n)[29 + 2 * k]? = some (a (4 + k) 1, .inl (E.2.1 1, 40, .inr (.inl (g1_row (g3_sheets n k)))))) rfl rfl rfl rfl hk
theorem wX3_spl (E : EV) (a : Nat → Nat → Nat) (n : NS) {k : Nat} (hk : k < 4) : wX3 E a n = List.take (28 + 2 * k) (wX3 E a n) ++ (wX1 E (a (4 + k)) (g3_sheets n k) ++ List.drop (30 + 2 * k) (wX3 E a n)) := k4 (P := fun k => wX3 E a n = List.take (28 + 2 * k) (wX3 E a n) ++ (wX1 E (a (4 + k)) (g3_sheets n k) ++ List.drop (30 + 2 * k) (wX3 E a n))) rfl rfl rfl rfl hk
theorem wX3_spl' (E : EV) (a : Nat → Nat → Nat) (n : NS) (x : SS) {k : Nat} (hk : k < 4) : wX3 E a (s3_sheets n (va_up (g3_sheets n) k x)) = List.take (28 + 2 * k) (wX3 E a n) ++ (wX1 E (a (4 + k)) x ++ List.drop (30 + 2 * k) (wX3 E a n)) := k4 (P := fun k => wX3 E a (s3_sheets n (va_up (g3_sheets n) k x)) = List.take (28 + 2 * k) (wX3 E a n) ++ (wX1 E (a (4 + k)) x ++ List.drop (30 + 2 * k) (wX3 E a n))) rfl rfl rfl rfl hk
theorem wX3_cpy (E : EV) (a : Nat → Nat → Nat) (n : NS) (r : FL) {k : Nat} (hk : k < 4) : (wX3 E a n).set (29 + 2 * k) (a (4 + k) 1, .inl (E.2.1 1, 40, .inr (.inl r))) = wX3 E a (s3_sheets n (va_up (g3_sheets n) k (s1_row (g3_sheets n k) r))) := k4 (P := fun k => (wX3 E a n).set (29 + 2 * k) (a (4 + k) 1, .inl (E.2.1 1, 40, .inr (.inl r))) = wX3 E a (s3_sheets n (va_up (g3_sheets n) k (s1_row (g3_sheets n k) r)))) rfl rfl rfl rfl hk
theorem so1 {α : Type} {a0 : α} {b0 : α} (h : some a0 = some b0) : a0 = b0 := Option.some.inj h
theorem pj1 {α : Type} {a0 : α} {b0 : α} (h : b0 = a0) : a0 = b0 := h.symm
theorem so2 {α β : Type} {a0 : α} {a1 : β} {b0 : α} {b1 : β} (h : some (a0, a1) = some (b0, b1)) : a0 = b0 ∧ a1 = b1 := ⟨congrArg (fun q => q.1) (Option.some.inj h), congrArg (fun q => q.2) (Option.some.inj h)⟩
theorem pj2 {α β : Type} {a0 : α} {a1 : β} {b0 : α} {b1 : β} (h : (b0, b1) = (a0, a1)) : a0 = b0 ∧ a1 = b1 := ⟨congrArg (fun q => q.1) h.symm, congrArg (fun q => q.2) h.symm⟩
theorem so3 {α β γ : Type} {a0 : α} {a1 : β} {a2 : γ} {b0 : α} {b1 : β} {b2 : γ} (h : some (a0, a1, a2) = some (b0, b1, b2)) : a0 = b0 ∧ a1 = b1 ∧ a2 = b2 := ⟨congrArg (fun q => q.1) (Option.some.inj h), congrArg (fun q => q.2.1) (Option.some.inj h), congrArg (fun q => q.2.2) (Option.some.inj h)⟩
theorem pj3 {α β γ : Type} {a0 : α} {a1 : β} {a2 : γ} {b0 : α} {b1 : β} {b2 : γ} (h : (b0, b1, b2) = (a0, a1, a2)) : a0 = b0 ∧ a1 = b1 ∧ a2 = b2 := ⟨congrArg (fun q => q.1) h.symm, congrArg (fun q => q.2.1) h.symm, congrArg (fun q => q.2.2) h.symm⟩
theorem so4 {α β γ δ : Type} {a0 : α} {a1 : β} {a2 : γ} {a3 : δ} {b0 : α} {b1 : β} {b2 : γ} {b3 : δ} (h : some (a0, a1, a2, a3) = some (b0, b1, b2, b3)) : a0 = b0 ∧ a1 = b1 ∧ a2 = b2 ∧ a3 = b3 := ⟨congrArg (fun q => q.1) (Option.some.inj h), congrArg (fun q => q.2.1) (Option.some.inj h), congrArg (fun q => q.2.2.1) (Option.some.inj h), congrArg (fun q => q.2.2.2) (Option.some.inj h)⟩
theorem pj4 {α β γ δ : Type} {a0 : α} {a1 : β} {a2 : γ} {a3 : δ} {b0 : α} {b1 : β} {b2 : γ} {b3 : δ} (h : (b0, b1, b2, b3) = (a0, a1, a2, a3)) : a0 = b0 ∧ a1 = b1 ∧ a2 = b2 ∧ a3 = b3 := ⟨congrArg (fun q => q.1) h.symm, congrArg (fun q => q.2.1) h.symm, congrArg (fun q => q.2.2.1) h.symm, congrArg (fun q => q.2.2.2) h.symm⟩
theorem so5 {α β γ δ ε : Type} {a0 : α} {a1 : β} {a2 : γ} {a3 : δ} {a4 : ε} {b0 : α} {b1 : β} {b2 : γ} {b3 : δ} {b4 : ε} (h : some (a0, a1, a2, a3, a4) = some (b0, b1, b2, b3, b4)) : a0 = b0 ∧ a1 = b1 ∧ a2 = b2 ∧ a3 = b3 ∧ a4 = b4 := ⟨congrArg (fun q => q.1) (Option.some.inj h), congrArg (fun q => q.2.1) (Option.some.inj h), congrArg (fun q => q.2.2.1) (Option.some.inj h), congrArg (fun q => q.2.2.2.1) (Option.some.inj h), congrArg (fun q => q.2.2.2.2) (Option.some.inj h)⟩
theorem pj5 {α β γ δ ε : Type} {a0 : α} {a1 : β} {a2 : γ} {a3 : δ} {a4 : ε} {b0 : α} {b1 : β} {b2 : γ} {b3 : δ} {b4 : ε} (h : (b0, b1, b2, b3, b4) = (a0, a1, a2, a3, a4)) : a0 = b0 ∧ a1 = b1 ∧ a2 = b2 ∧ a3 = b3 ∧ a4 = b4 := ⟨congrArg (fun q => q.1) h.symm, congrArg (fun q => q.2.1) h.symm, congrArg (fun q => q.2.2.1) h.symm, congrArg (fun q => q.2.2.2.1) h.symm, congrArg (fun q => q.2.2.2.2) h.symm⟩
