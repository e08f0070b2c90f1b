/-! PURE 12c: words by letters, words by value -/
def rwL : List (List Nat) := [[5, 21, 3], [2, 15, 19], [8, 7, 21, 1, 12], [8, 7, 21, 15, 3], [16, 1, 12, 3], [12, 12, 9, 20, 19], [5, 19, 14, 5, 20], [16, 1, 23, 19], [18, 5, 8, 7, 21, 15, 3], [18, 5, 16, 5, 5, 23], [18, 5, 16, 5, 5, 12, 19], [5, 21, 17, 1, 12, 3], [23, 15, 4, 9, 23], [18, 5, 20, 20, 9, 19], [8, 19, 5, 18, 6]]
def encR : List Nat → Nat
  | [] => 0
  | x :: r => encR r * 27 + x
theorem rw_ch : ∀ i, i < 15 → ∀ j, j < 8 → j < st_len.getD i 0 → st_ch i (nI j) = nI (96 + (rwL.getD i []).getD (st_len.getD i 0 - 1 - j) 0) := by decide +kernel
theorem rw_ln : ∀ i, i < 15 → (rwL.getD i []).length = st_len.getD i 0 ∧ st_len.getD i 0 < 8 ∧ 0 < st_len.getD i 0 ∧ encR (rwL.getD i []) ≤ 100000000000000000 ∧ ∀ x ∈ rwL.getD i [], 1 ≤ x ∧ x ≤ 26 := by decide +kernel
theorem wv_iff {f : FI} {a : Nat} : ∀ (r : List Nat) (n : Nat), (∀ x ∈ r, 1 ≤ x ∧ x ≤ 26) → encR r ≤ 100000000000000000 → (∀ j, j < n → lt0 (f (a + j)) = true) → (wv f a n = encR r ↔ n = r.length ∧ ∀ j, j < n → f (a + j) = nI (96 + r.getD (n - 1 - j) 0)) := by
  intro r
  induction r with
  | nil =>
    intro n hr he hl
    cases n with
    | zero => exact ⟨fun _ => ⟨rfl, fun j hj => absurd hj (by omega)⟩, fun _ => rfl⟩
    | succ n =>
      obtain ⟨c, c1, c2, e, -⟩ := letter_y (hl n (by omega))
      constructor
      · intro h
        rw [wv, e, cN_e c2, encR] at h
        split at h <;> omega
      · intro h
        exact absurd h.1 (by simp)
  | cons x r ih =>
    intro n hr he hl
    rw [encR] at he
    have hx := hr x (by simp)
    have hr2 : ∀ y ∈ r, 1 ≤ y ∧ y ≤ 26 := fun y hy => hr y (by simp [hy])
    cases n with
    | zero =>
      constructor
      · intro h
        rw [wv, encR] at h
        omega
      · intro h
        exact absurd h.1 (by simp)
    | succ n =>
      obtain ⟨c, c1, c2, e, -⟩ := letter_y (hl n (by omega))
      have i := ih n hr2 (by omega) (fun j hj => hl j (by omega))
      rw [wv, e, cN_e c2, encR]
      have hR : (n + 1 = (x :: r).length ∧ ∀ j, j < n + 1 → f (a + j) = nI (96 + (x :: r).getD (n + 1 - 1 - j) 0)) ↔ (c = x ∧ n = r.length ∧ ∀ j, j < n → f (a + j) = nI (96 + r.getD (n - 1 - j) 0)) := by
        constructor
        · rintro ⟨h1, h2⟩
          refine ⟨?_, by simpa using h1, fun j hj => ?_⟩
          · have h := h2 n (by omega)
            rw [e, show n + 1 - 1 - n = 0 by omega] at h
            have h := (nI_eq (by omega) (by simp; omega)).mp h
            simp at h
            omega
          · have h := h2 j (by omega)
            rw [show n + 1 - 1 - j = (n - 1 - j) + 1 by omega] at h
            simpa using h
        · rintro ⟨h1, h2, h3⟩
          refine ⟨by simp [h2], fun j hj => ?_⟩
          by_cases cj : j = n
          · rw [cj, e, show n + 1 - 1 - n = 0 by omega, h1]
            rfl
          · rw [show n + 1 - 1 - j = (n - 1 - j) + 1 by omega]
            have h := h3 j (by omega)
            simpa using h
      rw [hR]
      by_cases cw : wv f a n ≤ 100000000000000000
      · rw [if_pos cw, ← i]
        omega
      · rw [if_neg cw]
        constructor
        · intro h; omega
        · rintro ⟨h1, h2⟩
          exact absurd (i.mpr h2) (by omega)
theorem isWord2_l {t : TS} {i a ln : Nat} {f : FI} (e1 : g2_first t = nI a) (e3 : g2_bytes t = f) (hi : st_len.getD i 0 = ln) (ha : a + ln ≤ 120) : ∀ (j v r : Nat), v + j = ln → ∃ B, lp_X2_isWord_28 t i (r + 1 + j) (nI v) = some B ∧ (B = true ↔ ∀ u, v ≤ u → u < ln → f (a + u) = st_ch i (nI u)) := by
  intro j
  induction j with
  | zero =>
    intro v r hv
    refine ⟨true, ?_, ⟨fun _ u h1 h2 => absurd h2 (by omega), fun _ => rfl⟩⟩
    rw [Nat.add_zero, lp_X2_isWord_28, hi, if_pos (nI_le (by omega) (by omega))]
  | succ j ih =>
    intro v r hv
    obtain ⟨B, x1, x2⟩ := ih (v + 1) r (by omega)
    have hs : lp_X2_isWord_28 t i (r + 1 + (j + 1)) (nI v) = if f (a + v) = st_ch i (nI v) then lp_X2_isWord_28 t i (r + 1 + j) (nI (v + 1)) else some false := by
      rw [show r + 1 + (j + 1) = (r + 1 + j) + 1 by omega, lp_X2_isWord_28, hi, if_neg (nle (by omega) (by omega) (by omega)), e1, nI_add, gd_nI (by omega) (by omega), gd_nI (by omega) (by omega), nI_clamp (by omega), e3, nI_1]
    rw [hs]
    by_cases c : f (a + v) = st_ch i (nI v)
    · rw [if_pos c]
      refine ⟨B, x1, x2.trans ⟨fun h u h1 h2 => ?_, fun h u h1 h2 => h u (by omega) h2⟩⟩
      by_cases cu : u = v
      · rw [cu]; exact c
      · exact h u (by omega) h2
    · rw [if_neg c]
      exact ⟨false, rfl, ⟨fun h => absurd h (by decide), fun h => absurd (h v (Nat.le_refl v) (by omega)) c⟩⟩
theorem word_e {L a b : Nat} {f : FI} {t : TS} {m : MS} (hL : L ≤ 120) (hk : Tk L f t m a b) (e3 : g2_bytes t = f) {i : Nat} (hi : i < 15) (cc : Int64) (hc : cc = lN (encR (rwL.getD i []))) : ∃ B, f_X2_isWord t i = some B ∧ f_X4_isWord m cc = some B := by
  obtain ⟨h1, h2, h3, h4, h5⟩ := hk
  unfold f_X2_isWord f_X4_isWord
  obtain ⟨F, hF⟩ : ∃ F, F = FU := ⟨_, rfl⟩
  rw [← hF]
  rcases h5 with ⟨x1, x2⟩ | ⟨x1, x2, x3, x4, x5, x6, x7⟩ | ⟨x1, x2, -⟩ | ⟨x1, x2, -⟩ | ⟨x1, x2⟩
  · rw [x1, x2, if_neg (by decide), if_neg (by decide)]; exact ⟨false, rfl, rfl⟩
  · obtain ⟨y1, y2, y3, y4, y5⟩ := rw_ln i hi
    rw [x1, x2, if_pos rfl, if_pos rfl, x3, h3, pk_sub h1, x6, hc]
    have q := wv_iff (f := f) (a := a) (rwL.getD i []) (b - a) y5 y4 x7
    have w := wv_small (f := f) (a := a) (b - a) x7
    have ql : (lN (wv f a (b - a)) = lN (encR (rwL.getD i []))) ↔ wv f a (b - a) = encR (rwL.getD i []) := by
      rw [i64_eq, lN_i63 (by omega), lN_i63 (by omega)]
      omega
    by_cases c1 : b - a = st_len.getD i 0
    · rw [if_pos (by rw [c1])]
      obtain ⟨q0, eF⟩ := FU_1 (st_len.getD i 0) (by omega)
      obtain ⟨B, z1, z2⟩ := isWord2_l (ln := st_len.getD i 0) h3 e3 rfl (by omega) (st_len.getD i 0) 0 q0 (by omega)
      rw [← eF, show nI 0 = (0 : Int32) from rfl] at z1
      rw [hF, z1]
      have zz : (B = true) ↔ wv f a (b - a) = encR (rwL.getD i []) := by
        rw [z2, q]
        constructor
        · intro h
          refine ⟨by rw [y1]; exact c1, fun j hj => ?_⟩
          rw [h j (Nat.zero_le j) (by omega), rw_ch i hi j (by omega) (by omega), c1]
        · intro h u hu hu2
          rw [h.2 u (by omega), rw_ch i hi u (by omega) hu2, c1]
      refine ⟨B, rfl, ?_⟩
      cases B
      · rw [if_neg (fun z => absurd (zz.mpr (ql.mp z)) (by decide))]
      · rw [if_pos (ql.mpr (zz.mp rfl))]
    · rw [if_neg (fun z => c1 ((nI_eq (by omega) (by omega)).mp z)), if_neg (fun z => c1 (by rw [← y1]; exact (q.mp (ql.mp z)).1))]
      exact ⟨false, rfl, rfl⟩
  · rw [x1, x2, if_neg (by decide), if_neg (by decide)]; exact ⟨false, rfl, rfl⟩
  · rw [x1, x2, if_neg (by decide), if_neg (by decide)]; exact ⟨false, rfl, rfl⟩
  · rw [x1, x2, if_neg (by decide), if_neg (by decide)]; exact ⟨false, rfl, rfl⟩
theorem wc_0 : (2759 : Int64) = lN (encR (rwL.getD 0 [])) := by decide +kernel
theorem wc_1 : (14258 : Int64) = lN (encR (rwL.getD 1 [])) := by decide +kernel
theorem wc_2 : (6412481 : Int64) = lN (encR (rwL.getD 2 [])) := by decide +kernel
theorem wc_3 : (1905074 : Int64) = lN (encR (rwL.getD 3 [])) := by decide +kernel
theorem wc_4 : (67840 : Int64) = lN (encR (rwL.getD 4 [])) := by decide +kernel
theorem wc_5 : (10497936 : Int64) = lN (encR (rwL.getD 5 [])) := by decide +kernel
theorem wc_6 : (10737959 : Int64) = lN (encR (rwL.getD 6 [])) := by decide +kernel
theorem wc_7 : (390787 : Int64) = lN (encR (rwL.getD 7 [])) := by decide +kernel
theorem wc_8 : (1388799099 : Int64) = lN (encR (rwL.getD 8 [])) := by decide +kernel
theorem wc_9 : (332792298 : Int64) = lN (encR (rwL.getD 9 [])) := by decide +kernel
theorem wc_10 : (7535943612 : Int64) = lN (encR (rwL.getD 10 [])) := by decide +kernel
theorem wc_11 : (49456661 : Int64) = lN (encR (rwL.getD 11 [])) := by decide +kernel
theorem wc_12 : (12403634 : Int64) = lN (encR (rwL.getD 12 [])) := by decide +kernel
theorem wc_13 : (277820595 : Int64) = lN (encR (rwL.getD 13 [])) := by decide +kernel
theorem wc_14 : (3547106 : Int64) = lN (encR (rwL.getD 14 [])) := by decide +kernel
