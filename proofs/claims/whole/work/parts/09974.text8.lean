/-! PURE 12i: an item -/
theorem kind_v {m : MS} {k : Nat} (hk : k ≤ 5) (h : f_X4_kindHere m = some (nI k)) {c : Int64} (hc : c ≠ 277820595 ∧ c ≠ 1388799099 ∧ c ≠ 332792298 ∧ c ≠ 7535943612 ∧ c ≠ 49456661 ∧ c ≠ 12403634) : f_X4_isWord m c = some false := by
  unfold f_X4_isWord
  by_cases s : g4_sort m = 1
  · rw [if_pos s]
    by_cases v : g4_value m = c
    · exfalso
      have w : ∀ c', c ≠ c' → f_X4_isWord m c' = some false := by
        intro c' hn
        unfold f_X4_isWord
        rw [if_pos s, v, if_neg hn]
      unfold f_X4_kindHere at h
      rw [w _ hc.1, bd1_e, if_pos bI_f, w _ hc.2.1, bd1_e, if_pos bI_f, w _ hc.2.2.1, bd1_e, if_pos bI_f, w _ hc.2.2.2.1, bd1_e, if_pos bI_f, w _ hc.2.2.2.2.1, bd1_e, if_pos bI_f, w _ hc.2.2.2.2.2, bd1_e, if_pos bI_f] at h
      have h0 : (0 : Int32) ≤ nI k := nI_pos' (by omega)
      rw [← Option.some.inj h] at h0
      exact absurd h0 (by decide)
    · rw [if_neg v]
  · rw [if_neg s]
theorem item_e {L a b : Nat} {f : FI} {h : HS} {t : TS} {m : MS} (hL : L ≤ 120) (hk : Tk L f t m a b) (hi : In L f t m) (hR : RHI (g4_d m) h) : Out L f a m (f_X2_takeItem h t) (f_X4_item m) := by
  have a120 : a ≤ 120 := Nat.le_trans (Nat.le_trans hk.1 hk.2.1) hL
  obtain ⟨r, c1, c2, c3⟩ := kind_e hL hk hi.2.2.1
  obtain ⟨B0, u0, w0⟩ := word_e hL hk hi.2.2.1 (i := 0) (by decide) _ wc_0
  obtain ⟨B6, u6, w6⟩ := word_e hL hk hi.2.2.1 (i := 6) (by decide) _ wc_6
  obtain ⟨B7, u7, w7⟩ := word_e hL hk hi.2.2.1 (i := 7) (by decide) _ wc_7
  obtain ⟨mw, e1, e2, e3, e4⟩ := wrong_f hL hk hi
  have hf : Out L f a m (some (false, h, t)) (some mw) := ⟨false, h, t, mw, rfl, rfl, e2, hi.2.2.1, hi.1, Or.inr ⟨rfl, a, a120, hk.2.2.1, e3⟩⟩
  unfold f_X2_takeItem f_X4_item
  rw [c2, bd1_e]
  by_cases ht : g2_token t = 1
  · rw [if_pos ht, u0, bd1_e]
    rcases c3 with rfl | ⟨⟨k, k5, rfl⟩, -⟩
    · rw [if_pos (show (-1 : Int32) < 0 by decide), w0, bd1_e]
      cases B0
      · rw [if_pos bI_f, if_pos bI_f, u6, w6, bd1_e, bd1_e]
        cases B6
        · rw [if_pos bI_f, if_pos bI_f, u7, w7, bd1_e, bd1_e]
          cases B7
          · have hp : f_X2_takePerson h t = some (false, h, t) := by
              unfold f_X2_takePerson
              rw [c1, bd1_e, if_pos (by decide)]
            rw [if_pos bI_f, if_pos bI_f, hp, bd3_e, e1, bd1_e]
            exact hf
          · rw [if_neg (show ¬ bI true = 0 by decide), if_neg (show ¬ bI true = 0 by decide)]
            obtain ⟨ok, h2, t2, m2, o1, o2, o3⟩ := swapItem_e hL hk hi ht hR
            rw [o1, o2, bd3_e, bd1_e]
            exact ⟨ok, h2, t2, m2, rfl, rfl, o3⟩
        · rw [if_neg (show ¬ bI true = 0 by decide), if_neg (show ¬ bI true = 0 by decide)]
          obtain ⟨ok, h2, t2, m2, o1, o2, o3⟩ := tenseItem_e hL hk hi ht hR
          rw [o1, o2, bd3_e, bd1_e]
          exact ⟨ok, h2, t2, m2, rfl, rfl, o3⟩
      · rw [if_neg (show ¬ bI true = 0 by decide), if_neg (show ¬ bI true = 0 by decide)]
        obtain ⟨ok, h2, t2, m2, o1, o2, o3⟩ := cueItem_e hL hk hi ht hR
        rw [o1, o2, bd3_e, bd1_e]
        exact ⟨ok, h2, t2, m2, rfl, rfl, o3⟩
    · have v0 := kind_v k5 c2 (c := 2759) (by decide)
      have v6 := kind_v k5 c2 (c := 10737959) (by decide)
      have v7 := kind_v k5 c2 (c := 390787) (by decide)
      have f0 : B0 = false := Option.some.inj (w0.symm.trans v0)
      have f6 : B6 = false := Option.some.inj (w6.symm.trans v6)
      have f7 : B7 = false := Option.some.inj (w7.symm.trans v7)
      subst f0 f6 f7
      rw [if_neg (nI_pos (by omega)), if_pos bI_f, u6, bd1_e, if_pos bI_f, u7, bd1_e, if_pos bI_f]
      obtain ⟨ok, h2, t2, m2, o1, o2, o3⟩ := personItem_e hL hk hi ht hR k5 c1
      rw [o1, o2, bd3_e, bd1_e]
      exact ⟨ok, h2, t2, m2, rfl, rfl, o3⟩
  · rcases c3 with rfl | ⟨-, z⟩
    · have f0 : B0 = false := Option.some.inj (u0.symm.trans (word_0 ht))
      have f6 : B6 = false := Option.some.inj (u6.symm.trans (word_0 ht))
      have f7 : B7 = false := Option.some.inj (u7.symm.trans (word_0 ht))
      subst f0 f6 f7
      rw [if_neg ht, if_pos (show (-1 : Int32) < 0 by decide), w0, bd1_e, if_pos bI_f, w6, bd1_e, if_pos bI_f, w7, bd1_e, if_pos bI_f, e1, bd1_e]
      exact hf
    · exact absurd z ht
/-! PURE 12j: the items one behind another -/
def EvO (L : Nat) (f : FI) (m : MS) (o3 : Option (Int32 × HS × TS)) (o4 : Option (Int32 × MS)) : Prop := ∃ x h' t' y m', o3 = some (x, h', t') ∧ o4 = some (y, m') ∧ Fr m m' ∧ g2_bytes t' = f ∧ g2_length t' = nI L ∧ ((∃ v' : Nat, v' ≤ 200 ∧ x = nI v' ∧ y = nI v' ∧ g4_fault m' = -1 ∧ RHI (g4_d m') h') ∨ (∃ a' : Nat, a' ≤ 120 ∧ x = -1 - nI a' ∧ g4_fault m' = nI a'))
theorem Fr_in {L : Nat} {f : FI} {t t' : TS} {m m' : MS} (h : In L f t m) (g : Fr m m') (b : g2_bytes t' = f) (l : g2_length t' = nI L) (e : g4_fault m' = -1) : In L f t' m' := by
  obtain ⟨A, B, C, D, E, d, rfl⟩ := g
  exact ⟨l, h.2.1, b, h.2.2.2.1, e⟩
theorem tell_l {L : Nat} {f : FI} (hL : L ≤ 120) : ∀ (n b v : Nat) (h : HS) (t : TS) (m : MS), L < b + n → b ≤ L → 2 * v ≤ b + 2 → In L f t m → g2_behind t = nI b → g4_at m = nI b → RHI (g4_d m) h → EvO L f m (lp_X2_tellTo_7 n (nI v) h t) (bd1 (f_X4_next m) (fun m25 => bd1 (f_X4_item m25) (fun m27 => lp_X4_items_20 n (nI v) m27))) := by
  intro n
  induction n with
  | zero =>
    intro b v h t m h1 h2
    exact absurd h1 (by omega)
  | succ n ih =>
    intro b v h t m h1 h2 h3 hi e4 e5 hR
    obtain ⟨t2, m2, a2, b2, z1, z2, z3, z4, z5, z6, z7⟩ := take_f hL h2 hi e4 e5
    have hR2 : RHI (g4_d m2) h := by rw [z7]; exact hR
    obtain ⟨ok, h4, t3, m3, o1, o2, o3, o4, o5, o6⟩ := item_e hL z4 z6 hR2
    have hv : ¬ (120 : Int32) < nI v := nI_nlt (a := 120) (b := v) (by omega) (by omega)
    rw [z2, bd1_e, o2, bd1_e, lp_X2_tellTo_7, if_neg hv, z1, bd1_e, o1, bd3_e, lp_X4_items_20]
    rcases o6 with ⟨rfl, q1, ⟨a3, b3, q2, q3⟩, q4⟩ | ⟨rfl, a3, q1, q2, q3⟩
    · have hF := nflt q1
      have hi3 := Fr_in z6 o3 o4 o5 q1
      have a320 : a3 ≤ 120 := Nat.le_trans (Nat.le_trans q3.1 q3.2.1) hL
      obtain ⟨mw, w1, w2, w3, w4⟩ := wrong_f hL q3 hi3
      rw [if_neg (show ¬ bI true = 0 by decide), if_neg hF]
      have hw : EvO L f m (some (-1 - g2_first t3, h4, t3)) (some (nI v, mw)) := ⟨_, h4, t3, _, mw, rfl, rfl, Fr_t (Fr_t z5 o3) w2, o4, o5, Or.inr ⟨a3, a320, by rw [q3.2.2.1], w3⟩⟩
      have q5 := q3.2.2.2.2
      rcases q5 with ⟨x1, x2⟩ | ⟨x1, x2, -⟩ | ⟨x1, x2, -⟩ | ⟨x1, x2, x3, x4, x5⟩ | ⟨x1, x2⟩
      · rw [if_pos x1, if_neg (by rw [x2]; decide), if_neg hF, if_pos x2, bd1_e]
        exact ⟨_, h4, t3, _, m3, rfl, rfl, Fr_t z5 o3, o4, o5, Or.inl ⟨v, by omega, rfl, rfl, q1, q4⟩⟩
      · rw [if_neg (by rw [x1]; decide), if_neg (by rw [x1]; decide), if_neg (by rw [x2]; decide), if_neg hF, if_neg (by rw [x2]; decide), w1, bd1_e, bd1_e]
        exact hw
      · rw [if_neg (by rw [x1]; decide), if_neg (by rw [x1]; decide), if_neg (by rw [x2]; decide), if_neg hF, if_neg (by rw [x2]; decide), w1, bd1_e, bd1_e]
        exact hw
      · rw [if_neg (by rw [x1]; decide), if_pos x1, if_pos x2, nI_1]
        have b3L := q3.2.1
        obtain ⟨x, h', t', y, m', k1, k2, k3, k4⟩ := ih b3 (v + 1) h4 t3 m3 (by omega) b3L (by omega) hi3 x3 x4 q4
        exact ⟨x, h', t', y, m', k1, k2, Fr_t (Fr_t z5 o3) k3, k4⟩
      · rw [if_neg (by rw [x1]; decide), if_neg (by rw [x1]; decide), if_neg (by rw [x2]; decide), if_neg hF, if_neg (by rw [x2]; decide), w1, bd1_e, bd1_e]
        exact hw
    · have hF : 0 ≤ g4_fault m3 := by rw [q3]; exact nI_pos' (by omega)
      rw [if_pos (show bI false = 0 by decide), if_pos hF, if_pos hF, bd1_e]
      exact ⟨_, h4, t3, _, m3, rfl, rfl, Fr_t z5 o3, o4, o5, Or.inr ⟨a3, q1, by rw [q2], q3⟩⟩
theorem neg_a : ∀ a, a < 121 → (-1 : Int32) - nI a < 0 := by decide +kernel
theorem Fr_k {m m' : MS} (h : Fr m m') : g4_isKept m' = g4_isKept m ∧ g4_kept m' = g4_kept m ∧ g4_found m' = g4_found m ∧ g4_bitsOf m' = g4_bitsOf m ∧ g4_sizeOf m' = g4_sizeOf m ∧ g4_number m' = g4_number m ∧ g4_e m' = g4_e m := by
  obtain ⟨A, B, C, D, E, d, rfl⟩ := h
  exact ⟨rfl, rfl, rfl, rfl, rfl, rfl, rfl⟩
theorem Rel_mk {n n' : NS} {m m' : MS} (h : Rel n m) (a1 : RHI (g4_d m') (g3_house n')) (b1 : g3_keeps n' = g3_keeps n) (b2 : g3_kept n' = g3_kept n) (b3 : g3_found n' = g3_found n) (b4 : g3_sheets n' = g3_sheets n) (b5 : g2_length (g3_tape n') = 0) (c1 : g4_isKept m' = g4_isKept m) (c2 : g4_kept m' = g4_kept m) (c3 : g4_found m' = g4_found m) (c4 : g4_bitsOf m' = g4_bitsOf m) (c5 : g4_sizeOf m' = g4_sizeOf m) (c6 : g4_number m' = g4_number m) (c7 : g4_taped m' = 0) : Rel n' m' := by
  obtain ⟨-, h2, h3, h4, -, h6⟩ := h
  refine ⟨a1, ?_, ?_, ?_, ⟨0, by omega, b5, c7, fun i hi => absurd hi (by omega)⟩, ?_⟩
  · rw [b1, c1]; exact h2
  · rw [c1, c2, b2]; exact h3
  · rw [b3, c3]; exact h4
  · rw [b4, c4, c5, c6]; exact h6
theorem op_evening {n : NS} {m : MS} (h : Rel n m)  : ∃ (r : Int32) (n' : NS) (m' : MS), f_X3_evening n = some (r, n') ∧ f_X4_evening m = some (r, m') ∧ Rel n' m' := by
  obtain ⟨⟨N, M, hI, hR⟩, -, -, -, ⟨L, l1, l2, l3, l4⟩, -⟩ := id h
  obtain ⟨t0, et, hT⟩ := trial_e hI hR
  obtain ⟨F, hF⟩ : ∃ F, F = FU := ⟨_, rfl⟩
  have hF0 : L < 0 + F := by rw [hF]; unfold FU; omega
  obtain ⟨E, hE⟩ : ∃ E, E = rst (g4_d m) (g4_e m) := ⟨_, rfl⟩
  have g := tell_l (f := g2_bytes (g3_tape n)) l1 F 0 1 t0 (s2_behind (g3_tape n) 0) (s4_fault (s4_at (s4_e m E) 0) (-1)) hF0 (by omega) (by omega) ⟨l2, l3, rfl, l4, rfl⟩ rfl rfl ⟨N, M, hI, hT⟩
  obtain ⟨x, h', t', y, m', k1, k2, k3, k4, k5, k6⟩ := g
  obtain ⟨j1, j2, j3, j4, j5, j6, j7⟩ := Fr_k k3
  have i1 : g4_isKept m' = g4_isKept m := j1
  have i2 : g4_kept m' = g4_kept m := j2
  have i3 : g4_found m' = g4_found m := j3
  have i4 : g4_bitsOf m' = g4_bitsOf m := j4
  have i5 : g4_sizeOf m' = g4_sizeOf m := j5
  have i6 : g4_number m' = g4_number m := j6
  have i7 : g4_e m' = E := j7
  have g1 : f_X2_tellTo (g3_trial (s3_trial n t0)) (g3_tape (s3_trial n t0)) = some (x, h', t') := by
    unfold f_X2_tellTo
    rw [← hF, jn1_e]
    exact k1
  have g2 : f_X4_items (s4_e m E) = some (y, m') := by
    unfold f_X4_items
    rw [← hF, jn1_e, jn1_e]
    exact k2
  obtain ⟨n7, e7⟩ : ∃ n7, n7 = s3_tape (s3_trial (s3_trial n t0) h') t' := ⟨_, rfl⟩
  have q1 : g3_keeps n7 = g3_keeps n := by rw [e7]; rfl
  have q2 : g3_kept n7 = g3_kept n := by rw [e7]; rfl
  have q3 : g3_found n7 = g3_found n := by rw [e7]; rfl
  have q4 : g3_sheets n7 = g3_sheets n := by rw [e7]; rfl
  have q5 : g3_house n7 = g3_house n := by rw [e7]; rfl
  have q6 : g3_trial n7 = h' := by rw [e7]; rfl
  unfold f_X3_evening f_X4_evening
  rw [et, bd1_e, g1, bd3_e, jn1_e, cp_d_e, bd1_e, ← hE, g2, bd2_e, jn1_e, ← e7]
  clear g1 g2 k1 k2 k3 e7 et j1 j2 j3 j4 j5 j6 j7
  rcases k6 with ⟨v, v1, rfl, rfl, v4, ⟨N2, M2, hI2, hR2⟩⟩ | ⟨a, a1, rfl, a3⟩
  · obtain ⟨hh, eh, hH⟩ := become_ht_e (k0 := g3_kept n7) (h0 := g3_house n7) hI2 hR2
    have e4 : g4_fault (s4_taped m' 0) < 0 := by
      show g4_fault m' < 0
      rw [v4]; decide
    rw [q6, if_neg (nI_pos (by omega)), eh, bd1_e, jn1_e, bd1_e, jn1_e, if_pos e4]
    exact ⟨nI v, s3_tape (s3_house n7 hh) (s2_length (g3_tape (s3_house n7 hh)) 0), s4_taped m' 0, rfl, rfl, Rel_mk h ⟨N2, M2, hI2, hH⟩ q1 q2 q3 q4 rfl i1 i2 i3 i4 i5 i6 rfl⟩
  · have e67 : ∀ j, j < 67 → rst E (g4_d m') j = g4_d m j := by
      intro j hj
      unfold rst
      rw [if_pos hj, hE]
      exact if_pos hj
    have e4 : ¬ g4_fault (s4_taped m' 0) < 0 := by
      show ¬ g4_fault m' < 0
      rw [a3]; exact nI_pos (by omega)
    have e5 : f_X4_copies_e_d (s4_taped m' 0) = some (s4_d (s4_taped m' 0) (rst E (g4_d m'))) := by
      rw [cp_e_d, ← i7]
      rfl
    rw [if_pos (neg_a a (by omega)), bd1_e, jn1_e, if_neg e4, e5, bd1_e]
    have e6 : g4_fault (s4_d (s4_taped m' 0) (rst E (g4_d m'))) = nI a := a3
    rw [e6]
    have hH : RHI (rst E (g4_d m')) (g3_house n7) := by
      rw [q5]
      exact ⟨N, M, HI_67 e67 hI, RH_67 hI.2.1 e67 hR⟩
    exact ⟨-1 - nI a, s3_tape n7 (s2_length (g3_tape n7) 0), s4_d (s4_taped m' 0) (rst E (g4_d m')), rfl, rfl, Rel_mk h hH q1 q2 q3 q4 rfl i1 i2 i3 i4 i5 i6 rfl⟩
