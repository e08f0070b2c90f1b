/-! PURE 12e: the items -/
def In (L : Nat) (f : FI) (t : TS) (m : MS) : Prop := g2_length t = nI L ∧ g4_taped m = nI L ∧ g2_bytes t = f ∧ (∀ i, i < L → f i = g4_tape m i) ∧ g4_fault m = -1
def Fr (m m' : MS) : Prop := ∃ A B C D E d, m' = s4_d (s4_fault (mT m A B C D) E) d
theorem Fr_t {m m1 m2 : MS} (h : Fr m m1) (g : Fr m1 m2) : Fr m m2 := by
  obtain ⟨A, B, C, D, E, d, rfl⟩ := h
  obtain ⟨A2, B2, C2, D2, E2, d2, rfl⟩ := g
  exact ⟨A2, B2, C2, D2, E2, d2, rfl⟩
theorem Fr_T (m : MS) (A B C : Int32) (D : Int64) : Fr m (mT m A B C D) := ⟨A, B, C, D, g4_fault m, g4_d m, rfl⟩
theorem Fr_d (m : MS) (d : FI) : Fr m (s4_d m d) := ⟨g4_at m, g4_sort m, g4_from m, g4_value m, g4_fault m, d, rfl⟩
theorem Fr_F (m : MS) (E : Int32) : Fr m (s4_fault m E) := ⟨g4_at m, g4_sort m, g4_from m, g4_value m, E, g4_d m, rfl⟩
def Out (L : Nat) (f : FI) (a : Nat) (m : MS) (o3 : Option (Bool × HS × TS)) (o4 : Option MS) : Prop := ∃ ok h' t' m', o3 = some (ok, h', t') ∧ o4 = some m' ∧ Fr m m' ∧ g2_bytes t' = f ∧ g2_length t' = nI L ∧ ((ok = true ∧ g4_fault m' = -1 ∧ (∃ a' b', a < a' ∧ Tk L f t' m' a' b') ∧ RHI (g4_d m') h') ∨ (ok = false ∧ ∃ a', a' ≤ 120 ∧ g2_first t' = nI a' ∧ g4_fault m' = nI a'))
theorem Tk_1 {L a b : Nat} {f : FI} {t : TS} {m : MS} (hk : Tk L f t m a b) (h : g2_token t = 1) : g2_behind t = nI b ∧ g4_at m = nI b ∧ a < b := by
  obtain ⟨k1, k2, k3, k4, k5⟩ := hk
  rcases k5 with ⟨x1, -⟩ | ⟨x1, x2, x3, x4, x5, -⟩ | ⟨x1, -⟩ | ⟨x1, -⟩ | ⟨x1, -⟩
  · rw [x1] at h; exact absurd h (by decide)
  · exact ⟨x3, x4, x5⟩
  · rw [x1] at h; exact absurd h (by decide)
  · rw [x1] at h; exact absurd h (by decide)
  · rw [x1] at h; exact absurd h (by decide)
theorem wrong_e {L a b : Nat} {f : FI} {t : TS} {m : MS} (hk : Tk L f t m a b) (hF : g4_fault m = -1) : f_X4_wrongHere m = some (s4_fault m (nI a)) := by
  unfold f_X4_wrongHere
  rw [jn1_e, jn1_e, hF, if_neg (by decide), hk.2.2.2.1]
theorem flt {a : Nat} (m : MS) (h : a ≤ 120) : 0 ≤ g4_fault (s4_fault m (nI a)) := nI_pos' (by omega)
theorem nflt {m : MS} (h : g4_fault m = -1) : ¬ 0 ≤ g4_fault m := by rw [h]; decide
theorem take_f {L b : Nat} {f : FI} {t : TS} {m : MS} (hL : L ≤ 120) (hb : b ≤ L) (hi : In L f t m) (e4 : g2_behind t = nI b) (e5 : g4_at m = nI b) : ∃ t' m' a' b', f_X2_take t = some t' ∧ f_X4_next m = some m' ∧ b ≤ a' ∧ Tk L f t' m' a' b' ∧ Fr m m' ∧ In L f t' m' ∧ g4_d m' = g4_d m := by
  obtain ⟨e1, e2, e3, hf, hF⟩ := hi
  obtain ⟨t2, A, B, C, D, a2, b2, z1, z2, z3, z4, z5, z6⟩ := take_e hL hb e1 e2 e3 hf e4 e5
  exact ⟨t2, mT m A B C D, a2, b2, z1, z2, z3, z4, Fr_T m A B C D, ⟨z6, e2, z5, hf, hF⟩, rfl⟩
theorem num_f {L a b : Nat} {f : FI} {t : TS} {m : MS} {p : Int32} (hL : L ≤ 120) (hk : Tk L f t m a b) (hi : In L f t m) (h1 : -1 ≤ p.toInt) (h2 : p.toInt ≤ 99) : (f_X2_isNumberTo t p = some false ∧ ∃ m', f_X4_numberHere m 0 p = some (0, m') ∧ Fr m m' ∧ g4_fault m' = nI a ∧ 0 ≤ g4_fault m') ∨ (f_X2_isNumberTo t p = some true ∧ ∃ (k : Nat) (t' : TS) (m' : MS) (a' b' : Nat), (k : Int) ≤ p.toInt ∧ g2_number t = nI k ∧ f_X2_take t = some t' ∧ f_X4_numberHere m 0 p = some (nI k, m') ∧ b ≤ a' ∧ Tk L f t' m' a' b' ∧ Fr m m' ∧ In L f t' m' ∧ g4_d m' = g4_d m) := by
  have a120 : a ≤ 120 := Nat.le_trans (Nat.le_trans hk.1 hk.2.1) hL
  obtain ⟨e1, e2, e3, hf, hF⟩ := hi
  rcases num_e hL hk e1 e2 e3 hf hF h1 h2 with ⟨n1, n2⟩ | ⟨n1, k, t7, A2, B2, C2, D2, a5, b5, n2, n3, n4, n5, n6, n7, n8, n9⟩
  · exact Or.inl ⟨n1, _, n2, Fr_F m _, rfl, flt m a120⟩
  · exact Or.inr ⟨n1, k, t7, _, a5, b5, n2, n3, n4, n5, n6, n7, Fr_T m A2 B2 C2 D2, ⟨n9, e2, n8, hf, hF⟩, rfl⟩
theorem In_d {L : Nat} {f : FI} {t : TS} {m : MS} (h : In L f t m) (d : FI) : In L f t (s4_d m d) := h
theorem wrong_f {L a b : Nat} {f : FI} {t : TS} {m : MS} (hL : L ≤ 120) (hk : Tk L f t m a b) (hi : In L f t m) : ∃ m', f_X4_wrongHere m = some m' ∧ Fr m m' ∧ g4_fault m' = nI a ∧ 0 ≤ g4_fault m' := by
  have a120 : a ≤ 120 := Nat.le_trans (Nat.le_trans hk.1 hk.2.1) hL
  exact ⟨_, wrong_e hk hi.2.2.2.2, Fr_F m _, rfl, flt m a120⟩
theorem cueItem_e {L a b : Nat} {f : FI} {h : HS} {t : TS} {m : MS} (hL : L ≤ 120) (hk : Tk L f t m a b) (hi : In L f t m) (ht : g2_token t = 1) (hR : RHI (g4_d m) h) : Out L f a m (f_X2_takeCue h t) (f_X4_cueItem m) := by
  obtain ⟨N, M, hI, hR⟩ := hR
  obtain ⟨y1, y2, y3⟩ := Tk_1 hk ht
  obtain ⟨t2, m2, a2, b2, z1, z2, z3, z4, z5, z6, z7⟩ := take_f hL hk.2.1 hi y1 y2
  have a120 : a2 ≤ 120 := Nat.le_trans (Nat.le_trans z4.1 z4.2.1) hL
  unfold f_X2_takeCue f_X4_cueItem
  rw [z1, z2, bd1_e, bd1_e]
  rcases num_f (p := 15) hL z4 z6 (by decide) (by decide) with ⟨n1, m5, n2, n3, n4, n5⟩ | ⟨n1, k, t7, m5, a5, b5, n2, n3, n4, n5, n6, n7, n8, n9, n10⟩
  · rw [n1, n2, bd1_e, bd2_e, if_pos (by decide), if_pos n5, bd1_e, if_pos n5, bd1_e, if_pos n5]
    exact ⟨false, h, t2, m5, rfl, rfl, Fr_t z5 n3, z6.2.2.1, z6.1, Or.inr ⟨rfl, a2, a120, z4.2.2.1, n4⟩⟩
  · have e15 : (15 : Int32).toInt = 15 := by decide
    have k16 : k < 16 := by omega
    have a520 : a5 ≤ 120 := Nat.le_trans (Nat.le_trans n7.1 n7.2.1) hL
    have hF5 := nflt n9.2.2.2.2
    obtain ⟨r, c1, c2, c3⟩ := cue_e hL n7 n9.2.2.1
    rw [n1, n5, bd1_e, bd2_e, if_neg (by decide), if_neg hF5, n4, bd1_e, c1, c2, bd1_e, bd1_e, bd1_e, if_neg hF5]
    rcases c3 with rfl | ⟨⟨q, hq, rfl⟩, c4⟩
    · obtain ⟨m6, w1, w2, w3, w4⟩ := wrong_f hL n7 n9
      rw [if_neg (by decide), if_neg (by decide), w1, bd1_e, bd1_e, if_pos w4]
      exact ⟨false, h, t7, m6, rfl, rfl, Fr_t (Fr_t z5 n8) w2, n9.2.2.1, n9.1, Or.inr ⟨rfl, a5, a520, n7.2.2.1, w3⟩⟩
    · obtain ⟨w1, w2, w3⟩ := Tk_1 n7 c4
      obtain ⟨g1, g2⟩ := RHI_cue hI hR k16 (nI q)
      obtain ⟨t9, m9, a9, b9, v1, v2, v3, v4, v5, v6, v7⟩ := take_f (m := s4_d m5 (upd (g4_d m5) (3 + k) (nI q))) hL n7.2.1 (In_d n9 _) w1 w2
      rw [if_pos (nI_pos' (by omega)), if_pos (nI_pos' (by omega)), bd1_e, if_neg hF5, n3, gd_nI k16 (by omega), nI_clamp (show k < 2 ^ 31 by omega), gdc k16, clc k16, jn1_e, jn1_e, v1, v2, bd1_e, bd1_e]
      have ed : g4_d m9 = upd (g4_d m) (3 + k) (nI q) := by
        rw [v7, ← z7, ← n10]
        rfl
      refine ⟨true, _, t9, m9, rfl, rfl, Fr_t (Fr_t (Fr_t z5 n8) (Fr_d _ _)) v5, v6.2.2.1, v6.1, Or.inl ⟨rfl, v6.2.2.2.2, ⟨a9, b9, by have := n7.1; have := z4.1; omega, v4⟩, N, M, ?_, ?_⟩⟩
      · rw [ed]; exact g1
      · rw [ed]; exact g2
