/-! PURE 12g: the items, swap -/
theorem pm1 {N : Nat} (h : N ≤ 8) : (nI N - 1 : Int32).toInt = (N : Int) - 1 := by
  rcases Nat.eq_zero_or_pos N with h0 | h0
  · subst h0
    decide
  · obtain ⟨k, rfl⟩ : ∃ k, N = k + 1 := ⟨N - 1, by omega⟩
    rw [nI_pred, nI_toInt (by omega)]
    omega
theorem eq_n {L a b k : Nat} {f : FI} {t : TS} {m : MS} (hk : Tk L f t m a b) (h2 : k < 1000) : (g4_sort m = 2 ∧ g4_value m = (nI k).toInt64) ↔ (g2_token t = 2 ∧ g2_number t = nI k) := by
  rw [nI_l (by omega)]
  obtain ⟨-, -, -, -, k5⟩ := hk
  rcases k5 with ⟨x1, x2⟩ | ⟨x1, x2, -⟩ | ⟨x1, x2, -, -, x5⟩ | ⟨x1, x2, -⟩ | ⟨x1, x2⟩
  · rw [x1, x2]; exact ⟨fun h => absurd h.1 (by decide), fun h => absurd h.1 (by decide)⟩
  · rw [x1, x2]; exact ⟨fun h => absurd h.1 (by decide), fun h => absurd h.1 (by decide)⟩
  · rw [x1, x2]
    rcases x5 with ⟨j, hj, y1, y2⟩ | ⟨y1, j, hj, hj2, y2⟩
    · rw [y1, y2, lN_eq (by omega) (by omega), nI_eq (by omega) (by omega)]
    · rw [y1, y2, lN_eq (by omega) (by omega), nI_eq (by omega) (by omega)]
      exact ⟨fun h => absurd h.2 (by omega), fun h => absurd h.2 (by omega)⟩
  · rw [x1, x2]; exact ⟨fun h => absurd h.1 (by decide), fun h => absurd h.1 (by decide)⟩
  · rw [x1, x2]; exact ⟨fun h => absurd h.1 (by decide), fun h => absurd h.1 (by decide)⟩
theorem num_2 {t : TS} {p : Int32} (h : f_X2_isNumberTo t p = some true) : g2_token t = 2 := by
  unfold f_X2_isNumberTo at h
  by_cases c : g2_token t = 2
  · exact c
  · rw [if_neg c] at h
    exact absurd h (by simp)
theorem swapItem_e {L a b : Nat} {f : FI} {h : HS} {t : TS} {m : MS} (hL : L ≤ 120) (hk : Tk L f t m a b) (hi : In L f t m) (ht : g2_token t = 1) (hR : RHI (g4_d m) h) : Out L f a m (f_X2_takeSwap h t) (f_X4_swapItem m) := by
  obtain ⟨N, M, hI, hR⟩ := hR
  have hN := hI.2.1
  have hp : g0_people h = nI N := hR.1.trans hI.1
  have hq := pm1 hN
  obtain ⟨y1, y2, y3⟩ := Tk_1 hk ht
  obtain ⟨t2, m2, a2, b2, z1, z2, z3, z4, z5, z6, z7⟩ := take_f hL hk.2.1 hi y1 y2
  have a120 : a2 ≤ 120 := Nat.le_trans (Nat.le_trans z4.1 z4.2.1) hL
  have d2 : g4_d m2 0 = nI N := by rw [z7]; exact hI.1
  unfold f_X2_takeSwap f_X4_swapItem
  rw [z1, z2, bd1_e, bd1_e, gd0, cl0, d2, hp]
  rcases num_f (p := nI N - 1) hL z4 z6 (by rw [hq]; omega) (by rw [hq]; omega) with ⟨n1, m5, n2, n3, n4, n5⟩ | ⟨n1, k, t7, m5, a5, b5, n2, n3, n4, n5, n6, n7, n8, n9, n10⟩
  · rw [n1, n2, bd1_e, bd2_e, if_pos (by decide), if_pos n5, bd1_e, if_pos n5, bd2_e, if_pos n5]
    exact ⟨false, h, t2, m5, rfl, rfl, Fr_t z5 n3, z6.2.2.1, z6.1, Or.inr ⟨rfl, a2, a120, z4.2.2.1, n4⟩⟩
  · rw [hq] at n2
    have kN : k < N := by omega
    have a520 : a5 ≤ 120 := Nat.le_trans (Nat.le_trans n7.1 n7.2.1) hL
    have hF5 := nflt n9.2.2.2.2
    have d5 : g4_d m5 0 = nI N := by rw [n10]; exact d2
    have hq2 := eq_n (k := k) n7 (by omega)
    have hmid : (if 0 ≤ g4_fault m5 then some m5 else if g4_sort m5 = (2 : Int32) then if g4_value m5 = (nI k).toInt64 then bd1 (f_X4_wrongHere m5) (fun m14 => some (m14)) else some m5 else some m5) = if g2_token t7 = 2 ∧ g2_number t7 = nI k then bd1 (f_X4_wrongHere m5) (fun m14 => some (m14)) else some m5 := by
      rw [if_neg hF5]
      by_cases c : g2_token t7 = 2 ∧ g2_number t7 = nI k
      · rw [if_pos c, if_pos (hq2.mpr c).1, if_pos (hq2.mpr c).2]
      · rw [if_neg c]
        by_cases c1 : g4_sort m5 = 2
        · rw [if_pos c1, if_neg (fun z => c (hq2.mp ⟨c1, z⟩))]
        · rw [if_neg c1]
    rw [n1, n5, bd1_e, bd2_e, if_neg (by decide), n4, bd1_e, hmid]
    by_cases c : g2_token t7 = 2 ∧ g2_number t7 = nI k
    · obtain ⟨m6, w1, w2, w3, w4⟩ := wrong_f hL n7 n9
      have hy : f_X2_isNumberTo t7 (nI N - 1) = some true := by
        unfold f_X2_isNumberTo
        rw [if_pos c.1, if_neg]
        rw [c.2, i32_lt, hq, nI_toInt (by omega)]
        omega
      rw [if_pos c, w1, bd1_e, bd1_e, if_pos w4, bd2_e, if_pos w4, hy, bd1_e, if_neg (by decide), if_pos (c.2.trans n3.symm)]
      exact ⟨false, h, t7, m6, rfl, rfl, Fr_t (Fr_t z5 n8) w2, n9.2.2.1, n9.1, Or.inr ⟨rfl, a5, a520, n7.2.2.1, w3⟩⟩
    · rw [if_neg c, bd1_e, if_neg hF5, gd0, d5]
      rcases num_f (p := nI N - 1) hL n7 n9 (by rw [hq]; omega) (by rw [hq]; omega) with ⟨p1, m8, p2, p3, p4, p5⟩ | ⟨p1, q, t9, m9, a9, b9, p2, p3, p4, p5, p6, p7, p8, p9, p10⟩
      · rw [p1, p2, bd1_e, bd2_e, bd2_e, if_pos (by decide), if_pos p5]
        exact ⟨false, h, t7, m8, rfl, rfl, Fr_t (Fr_t z5 n8) p3, n9.2.2.1, n9.1, Or.inr ⟨rfl, a5, a520, n7.2.2.1, p4⟩⟩
      · rw [hq] at p2
        have qN : q < N := by omega
        have hne : k ≠ q := by
          intro z
          exact c ⟨num_2 p1, by rw [p3, z]⟩
        obtain ⟨h', s1, s2, s3⟩ := changeSeats_e hI hR kN qN hne
        have ed : g4_d m9 = g4_d m := by rw [p10, n10, z7]
        rw [p1, p5, bd1_e, bd2_e, bd2_e, if_neg (by decide), if_neg (nflt p9.2.2.2.2), p3, n3, if_neg (fun z => hne ((nI_eq (by omega) (by omega)).mp z).symm), s1, bd1_e, p4, bd1_e, swaps_e (by omega) (by omega) hne, bd1_e, ed]
        exact ⟨true, h', t9, s4_d m9 (swK 4 k q (g4_d m)), rfl, rfl, Fr_t (Fr_t (Fr_t z5 n8) p8) (Fr_d _ _), p9.2.2.1, p9.1, Or.inl ⟨rfl, p9.2.2.2.2, ⟨a9, b9, by have := n7.1; have := z4.1; omega, p7⟩, N, M, s2, s3⟩⟩
/-! PURE 12h: the items, people -/
theorem word_1 {t : TS} {i : Nat} (h : f_X2_isWord t i = some true) : g2_token t = 1 := by
  unfold f_X2_isWord at h
  by_cases c : g2_token t = 1
  · exact c
  · rw [if_neg c] at h
    exact absurd h (by simp)
theorem word_0 {t : TS} {i : Nat} (h : ¬ g2_token t = 1) : f_X2_isWord t i = some false := by
  unfold f_X2_isWord
  rw [if_neg h]
theorem Tk_d {L a b : Nat} {f : FI} {t : TS} {m : MS} (h : Tk L f t m a b) (d : FI) : Tk L f t (s4_d m d) a b := h
theorem personItem_e {L a b k : Nat} {f : FI} {h : HS} {t : TS} {m : MS} (hL : L ≤ 120) (hk : Tk L f t m a b) (hi : In L f t m) (ht : g2_token t = 1) (hR : RHI (g4_d m) h) (k5 : k ≤ 5) (hkd : f_X2_kindNamed t = some (nI k)) : Out L f a m (f_X2_takePerson h t) (f_X4_personHere m (nI k)) := by
  obtain ⟨N, M, hI, hR⟩ := hR
  have hN := hI.2.1
  have hp : g0_people h = nI N := hR.1.trans hI.1
  have a020 : a ≤ 120 := Nat.le_trans (Nat.le_trans hk.1 hk.2.1) hL
  unfold f_X2_takePerson f_X4_personHere
  rw [hkd, bd1_e, if_neg (nI_pos (by omega)), hp, gd0, cl0, hI.1]
  by_cases c2 : N = 8
  · subst c2
    obtain ⟨m6, w1, w2, w3, w4⟩ := wrong_f hL hk hi
    rw [if_neg (show ¬ nI 8 < (8 : Int32) by decide), if_pos (show nI 8 = (8 : Int32) by decide), w1, bd1_e]
    exact ⟨false, h, t, m6, rfl, rfl, w2, hi.2.2.1, hi.1, Or.inr ⟨rfl, a, a020, hk.2.2.1, w3⟩⟩
  · have h8 : N < 8 := by omega
    have q1 : nI N < (8 : Int32) := nI_lt (a := N) (b := 8) h8 (by omega)
    have q2 : ¬ nI N = (8 : Int32) := fun q => c2 ((nI_eq (a := N) (b := 8) (by omega) (by omega)).mp q)
    obtain ⟨y1, y2, y3⟩ := Tk_1 hk ht
    obtain ⟨t2, m2, a2, b2, z1, z2, z3, z4, z5, z6, z7⟩ := take_f hL hk.2.1 hi y1 y2
    have a120 : a2 ≤ 120 := Nat.le_trans (Nat.le_trans z4.1 z4.2.1) hL
    have hI2 : HI N M (g4_d m2) := by rw [z7]; exact hI
    obtain ⟨g1, g2⟩ := RHI_new hI hR h8 (k := nI k) ⟨k, k5, rfl⟩ 60
    obtain ⟨h7, eh7⟩ : ∃ h7, h7 = s0_people (s0_dids (s0_notes (s0_freshes (s0_kinds h (upd (g0_kinds h) N (nI k))) (upd (g0_freshes h) N 60)) (upd (g0_notes h) N 0)) (upd (g0_dids h) N 0)) (nI (N + 1)) := ⟨_, rfl⟩
    rw [← eh7] at g2
    have es := seat_e hI hR h8 (nI k) 60
    rw [← eh7] at es
    have ec := comesIn_e hI2 h8 (nI k)
    rw [z7] at ec
    obtain ⟨D, eD⟩ : ∃ D, D = newD (g4_d m) N (nI k) 60 := ⟨_, rfl⟩
    rw [← eD] at ec g1 g2
    obtain ⟨B, u1, u2⟩ := word_e (m := s4_d m2 D) hL (Tk_d z4 D) z6.2.2.1 (i := 14) (by decide) _ wc_14
    rw [if_pos q1, if_neg q2, es, bd2_e, z1, bd1_e, u1, bd1_e, z2, bd1_e, ec, bd2_e, u2, bd1_e]
    cases B
    · rw [if_pos (show bI false = 0 by decide), if_pos (show bI false = 0 by decide)]
      exact ⟨true, h7, t2, s4_d m2 D, rfl, rfl, Fr_t z5 (Fr_d _ _), z6.2.2.1, z6.1, Or.inl ⟨rfl, z6.2.2.2.2, ⟨a2, b2, by omega, z4⟩, N + 1, M, g1, g2⟩⟩
    · rw [if_neg (show ¬ bI true = 0 by decide), if_neg (show ¬ bI true = 0 by decide)]
      obtain ⟨x1, x2, x3⟩ := Tk_1 z4 (word_1 u1)
      obtain ⟨t3, m3, a3, b3, v1, v2, v3, v4, v5, v6, v7⟩ := take_f (m := s4_d m2 D) hL z4.2.1 (In_d z6 D) x1 x2
      have a320 : a3 ≤ 120 := Nat.le_trans (Nat.le_trans v4.1 v4.2.1) hL
      have e99 : (99 : Int32).toInt = 99 := by decide
      rw [v1, v2, bd1_e, bd1_e]
      rcases num_f (p := 99) hL v4 v6 (by decide) (by decide) with ⟨n1, m5, n2, n3, n4, n5⟩ | ⟨n1, q, t7, m5, a5, b5, n2, n3, n4, n5, n6, n7, n8, n9, n10⟩
      · rw [n1, n2, bd1_e, bd2_e, if_pos (by decide), sets1 h8, bd1_e]
        exact ⟨false, h7, t3, s4_d m5 (upd (g4_d m5) (35 + 4 * N + 1) 0), rfl, rfl, Fr_t (Fr_t (Fr_t (Fr_t z5 (Fr_d _ _)) v5) n3) (Fr_d _ _), v6.2.2.1, v6.1, Or.inr ⟨rfl, a3, a320, v4.2.2.1, n4⟩⟩
      · have ed : g4_d m5 = D := by rw [n10, v7]; rfl
        obtain ⟨r1, r2⟩ := RHI_f g1 g2 (p := N) (by omega) (nI q)
        rw [n1, n5, bd1_e, bd2_e, if_neg (by decide), gd_nI h8 (by omega), nI_clamp (show N < 2 ^ 31 by omega), n3, jn1_e, n4, bd1_e, sets1 h8, bd1_e, ed]
        exact ⟨true, s0_freshes h7 (upd (g0_freshes h7) N (nI q)), t7, s4_d m5 (upd D (35 + 4 * N + 1) (nI q)), rfl, rfl, Fr_t (Fr_t (Fr_t (Fr_t z5 (Fr_d _ _)) v5) n8) (Fr_d _ _), n9.2.2.1, n9.1, Or.inl ⟨rfl, n9.2.2.2.2, ⟨a5, b5, by have := v4.1; have := z4.1; omega, n7⟩, N + 1, M, r1, r2⟩⟩
