/-! PURE 12f: the items, tense -/
theorem tenseItem_e {L a b : Nat} {f : FI} {h : HS} {t : TS} {m : MS} (hL : L ≤ 120) (hk : Tk L f t m a b) (hi : In L f t m) (ht : g2_token t = 1) (hR : RHI (g4_d m) h) : Out L f a m (f_X2_takeTense h t) (f_X4_tenseItem m) := by
  obtain ⟨N, M, hI, hR⟩ := hR
  obtain ⟨y1, y2, y3⟩ := Tk_1 hk ht
  obtain ⟨t2, m2, a2, b2, z1, z2, z3, z4, z5, z6, z7⟩ := take_f hL hk.2.1 hi y1 y2
  have a120 : a2 ≤ 120 := Nat.le_trans (Nat.le_trans z4.1 z4.2.1) hL
  unfold f_X2_takeTense f_X4_tenseItem
  rw [z1, z2, bd1_e, bd1_e]
  rcases num_f (p := 15) hL z4 z6 (by decide) (by decide) with ⟨n1, m5, n2, n3, n4, n5⟩ | ⟨n1, k, t7, m5, a5, b5, n2, n3, n4, n5, n6, n7, n8, n9, n10⟩
  · rw [n1, n2, bd1_e, bd2_e, if_pos (by decide), if_pos n5, bd2_e, if_pos n5]
    exact ⟨false, h, t2, m5, rfl, rfl, Fr_t z5 n3, z6.2.2.1, z6.1, Or.inr ⟨rfl, a2, a120, z4.2.2.1, n4⟩⟩
  · have e15 : (15 : Int32).toInt = 15 := by decide
    have k16 : k < 16 := by omega
    have a520 : a5 ≤ 120 := Nat.le_trans (Nat.le_trans n7.1 n7.2.1) hL
    have hF5 := nflt n9.2.2.2.2
    rw [n1, n5, bd1_e, bd2_e, if_neg (by decide), if_neg hF5, n4, bd1_e]
    rcases num_f (p := 20) hL n7 n9 (by decide) (by decide) with ⟨p1, m8, p2, p3, p4, p5⟩ | ⟨p1, q, t9, m9, a9, b9, p2, p3, p4, p5, p6, p7, p8, p9, p10⟩
    · rw [p1, p2, bd1_e, bd2_e, bd2_e, if_pos (by decide), if_pos p5]
      exact ⟨false, h, t7, m8, rfl, rfl, Fr_t (Fr_t z5 n8) p3, n9.2.2.1, n9.1, Or.inr ⟨rfl, a5, a520, n7.2.2.1, p4⟩⟩
    · obtain ⟨g1, g2⟩ := RHI_ten hI hR k16 (nI q)
      rw [p1, p5, bd1_e, bd2_e, bd2_e, if_neg (by decide), if_neg (nflt p9.2.2.2.2), n3, p3, gd_nI k16 (by omega), nI_clamp (show k < 2 ^ 31 by omega), gdt k16, clt k16, jn1_e, jn1_e, p4, bd1_e]
      have ed : upd (g4_d m9) (19 + k) (nI q) = upd (g4_d m) (19 + k) (nI q) := by rw [p10, n10, z7]
      refine ⟨true, _, t9, s4_d m9 (upd (g4_d m9) (19 + k) (nI q)), rfl, rfl, Fr_t (Fr_t (Fr_t z5 n8) p8) (Fr_d _ _), p9.2.2.1, p9.1, Or.inl ⟨rfl, p9.2.2.2.2, ⟨a9, b9, by have := n7.1; have := z4.1; omega, p7⟩, N, M, ?_, ?_⟩⟩
      · show HI N M (upd (g4_d m9) (19 + k) (nI q))
        rw [ed]; exact g1
      · show RH N (upd (g4_d m9) (19 + k) (nI q)) _
        rw [ed]; exact g2
