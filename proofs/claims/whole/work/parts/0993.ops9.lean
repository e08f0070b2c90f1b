/-! PURE 11: read -/
theorem r87_0 {m ml : MS} {d : FI} {k p i z r : Nat} (K : Int32 → Int32 → MS → Option (Int32 × MS)) (hk : k < 4) : lp_X4_read_87 (nI k) (nI p) K (r + 1) (nI i) 0 ml = K (nI i) 0 ml := by
  rw [lp_X4_read_87, gd_nI hk (by omega), if_pos rfl]
  by_cases c : g4_sizeOf ml (nI k).toNatClampNeg ≤ nI i
  · rw [if_pos c]
  · rw [if_neg c]
theorem r87_l {n : NS} {m : MS} {k N p z : Nat} (h : Rel n m) (hk : k < 4) (hz : z ≤ 40) (hp : p < N) (hs : g4_sizeOf m k = nI z) (K : Int32 → Int32 → MS → Option (Int32 × MS)) : ∀ (j i r M : Nat) (t : HS) (ml : MS) (d : FI), i + j = z → HI N M d → RH N d t → Lm m ml d → ∃ (B : Bool) (t' : HS) (v : Int32) (ml' : MS) (d' : FI), lp_X3_trialDoesAs_2 k (nI p) (r + 1 + j) (nI i) (s3_trial n t) = some (B, s3_trial n t') ∧ lp_X4_read_87 (nI k) (nI p) K (r + 1 + j) (nI i) 1 ml = K v (if B then 1 else 0) ml' ∧ Lm m ml' d' := by
  obtain ⟨a1, a2, -, a4⟩ := h.2.2.2.2.2 k hk
  have q1 : ∀ t, g1_size (g3_sheets (s3_trial n t) k) = nI z := fun t => a2.trans hs
  intro j
  induction j with
  | zero =>
    intro i r M t ml d hi hI hT hL
    refine ⟨true, t, nI i, ml, d, ?_, ?_, hL⟩
    · rw [Nat.add_zero, lp_X3_trialDoesAs_2, q1, if_pos (nI_le (by omega) (by omega))]
    · rw [Nat.add_zero, lp_X4_read_87, gd_nI hk (by omega), nI_clamp (show k < 2 ^ 31 by omega), (Lm_o hL).1, hs, if_pos (nI_le (by omega) (by omega)), if_pos rfl]
  | succ j ih =>
    intro i r M t ml d hi hI hT hL
    have q2 : f_X0_deedOf (g3_trial (s3_trial n t)) (nI p) = some (deed d N M p) := deedOf_e hI hT hp
    have q3 : f_X4_doesNow ml (nI p) = some (deed d N M p) := by
      have e := doesNow_e (m := ml) (N := N) (M := M) (by rw [Lm_d hL]; exact hI) hp
      rw [Lm_d hL] at e
      exact e
    obtain ⟨t2, e2, hT2⟩ := go_e hI hT
    obtain ⟨m3, e3, hL3⟩ := Lm_step hL hI
    have e2' : f_X0_go (g3_trial (s3_trial n t)) = some t2 := e2
    have q4 : g1_row (g3_sheets (s3_trial n t) k) i = g4_number m (40 * k + i) := a4 i (by omega)
    have e4 : lp_X4_read_87 (nI k) (nI p) K (r + 1 + (j + 1)) (nI i) 1 ml = lp_X4_read_87 (nI k) (nI p) K (r + 1 + j) (nI (i + 1)) (if g4_number m (40 * k + i) = (deed d N M p).toInt64 then 1 else 0) m3 := by
      rw [show r + 1 + (j + 1) = (r + 1 + j) + 1 by omega, lp_X4_read_87, gd_nI hk (by omega), nI_clamp (show k < 2 ^ 31 by omega), (Lm_o hL).1, hs, if_neg (nle (by omega) (by omega) (by omega)), if_neg (by decide), ix_num, gd_nI (by omega) (by omega), nI_clamp (by omega), q3, bd1_e, jn1_e, e3, bd1_e, nI_1, (Lm_o hL).2.2]
    have e5 : lp_X3_trialDoesAs_2 k (nI p) (r + 1 + (j + 1)) (nI i) (s3_trial n t) = if (deed d N M p).toInt64 = g4_number m (40 * k + i) then lp_X3_trialDoesAs_2 k (nI p) (r + 1 + j) (nI (i + 1)) (s3_trial n t2) else some (false, s3_trial n t) := by
      rw [show r + 1 + (j + 1) = (r + 1 + j) + 1 by omega, lp_X3_trialDoesAs_2, q1, if_neg (nle (by omega) (by omega) (by omega)), q2, bd1_e, gd_nI (by omega) (by omega), nI_clamp (by omega), q4, e2', bd1_e, jn1_e, nI_1]
      rfl
    rw [e4, e5]
    by_cases c : (deed d N M p).toInt64 = g4_number m (40 * k + i)
    · rw [if_pos c, if_pos c.symm]
      exact ih (i + 1) r (nxM M) t2 m3 _ (by omega) (HI_step hI) hT2 hL3
    · rw [if_neg c, if_neg (fun z => c z.symm)]
      refine ⟨false, t, nI (i + 1), m3, _, rfl, ?_, hL3⟩
      rw [show r + 1 + j = (r + j) + 1 by omega]
      exact r87_0 (m := m) (d := d) (z := z) K hk
theorem read_1 {n : NS} {m : MS} {k N M p z : Nat} (h : Rel n m) (hI : HI N M (g4_d m)) (hR : RH N (g4_d m) (g3_house n)) (hk : k < 4) (hz : z ≤ 40) (hp : p < N) (hs : g4_sizeOf m k = nI z) (K3 : Int32 → Int32 → NS → Option (Int32 × NS)) {kd : Nat} (hkd : kd < 6) : ∀ (j f r R4 : Nat) (v : Int32) (t : HS) (ml : MS), f + j = 100 → Lm m ml (g4_d m) → (∀ (u v : Int32) (t : HS) (ml : MS), Lm m ml (g4_d m) → Op2 (K3 u v (s3_trial n t)) (lp_X4_read_51 (nI k) (nI p) R4 (nI (100 * kd + 100)) v ml)) → Op2 (lp_X3_read_33 (nI k) (nI p) (nI kd) K3 (r + 1 + j) (nI f) v (s3_trial n t)) (lp_X4_read_51 (nI k) (nI p) (R4 + j) (nI (100 * kd + f)) v ml) := by
  have hN := hI.2.1
  intro j
  induction j with
  | zero =>
    intro f r R4 v t ml hf hL hK
    rw [Nat.add_zero, lp_X3_read_33, show f = 100 by omega, if_pos (show (99 : Int32) < nI 100 by decide)]
    exact hK _ v t ml hL
  | succ j ih =>
    intro f r R4 v t ml hf hL hK
    have h8 : p < 8 := by omega
    obtain ⟨t1, e1, hT⟩ := trial_t hI hR t
    obtain ⟨hI2, hT2⟩ := RHI_k hI hT hp (v := nI kd) ⟨kd, by omega, rfl⟩
    obtain ⟨hI3, hT3⟩ := RHI_f hI2 hT2 hp (nI f)
    have hL2 := Lm_upd hL (k := 35 + 4 * p) (by omega) (nI kd)
    have hL3 := Lm_upd hL2 (k := 35 + 4 * p + 1) (by omega) (nI f)
    obtain ⟨q, eF⟩ := FU_1 z (by omega)
    have d1 : nI (100 * kd + f) / (100 : Int32) = nI kd := by
      rw [show (100 : Int32) = nI 100 from rfl, pk_div (by omega) (by omega) (by omega)]
      congr 1
      omega
    have d2 : nI (100 * kd + f) - nI kd * (100 : Int32) = nI f := by
      rw [show (100 : Int32) = nI 100 from rfl, pk_mul, pk_sub (by omega)]
      congr 1
      omega
    have d3 : Lm_d hL = Lm_d hL := rfl
    have s1 : f_X4_sets ml (nI p) 0 (nI kd) = some (s4_d ml (upd (g4_d m) (35 + 4 * p) (nI kd))) := by rw [sets0 h8, Lm_d hL]
    have s2 : f_X4_sets (s4_d ml (upd (g4_d m) (35 + 4 * p) (nI kd))) (nI p) 1 (nI f) = some (s4_d (s4_d ml (upd (g4_d m) (35 + 4 * p) (nI kd))) (upd (upd (g4_d m) (35 + 4 * p) (nI kd)) (35 + 4 * p + 1) (nI f))) := by rw [sets1 h8, Lm_d hL2]
    obtain ⟨B, t', u, ml', d', x1, x2, hL'⟩ := r87_l h hk hz hp hs (fun (v7_32 : Int32) (v6_32 : Int32) (m0_32 : MS) => bd1 (f_X4_copies_aside_d m0_32) (fun m34 => jn1 (if v6_32 = 0 then ((0 : Int32)) else ((1 : Int32))) (fun x36 => lp_X4_read_51 (nI k) (nI p) (R4 + j) (nI (100 * kd + f) + (1 : Int32)) (v + x36) m34))) z 0 q M _ _ _ (by omega) hI3 hT3 hL3
    obtain ⟨m9, e9, hL9⟩ := Lm_back hL'
    rw [← eF, show nI 0 = (0 : Int32) from rfl] at x1 x2
    have g99 : ¬ (99 : Int32) < nI f := by
      rw [show (99 : Int32) = nI 99 from rfl, nI_ltI (by omega) (by omega)]
      omega
    have g600 : ¬ (600 : Int32) ≤ nI (100 * kd + f) := nle (a := 100 * kd + f) (b := 600) (by omega) (by omega) (by omega)
    have x4 : lp_X4_read_51 (nI k) (nI p) (R4 + (j + 1)) (nI (100 * kd + f)) v ml = lp_X4_read_51 (nI k) (nI p) (R4 + j) (nI (100 * kd + (f + 1))) (if B then v + 1 else v) m9 := by
      rw [show R4 + (j + 1) = (R4 + j) + 1 by omega, lp_X4_read_51, if_neg g600, d1, s1, bd1_e, d2, s2, bd1_e, x2, e9, bd1_e, jn1_e, nI_1]
      cases B
      · show lp_X4_read_51 _ _ _ _ (v + 0) m9 = _
        rw [Int32.add_zero]
        rfl
      · rfl
    have x3 : lp_X3_read_33 (nI k) (nI p) (nI kd) K3 (r + 1 + (j + 1)) (nI f) v (s3_trial n t) = lp_X3_read_33 (nI k) (nI p) (nI kd) K3 (r + 1 + j) (nI (f + 1)) (if B then v + 1 else v) (s3_trial n t') := by
      rw [show r + 1 + (j + 1) = (r + 1 + j) + 1 by omega, lp_X3_read_33, if_neg g99, e1, bd1_e, gd_nI h8 (by omega), nI_clamp (show p < 2 ^ 31 by omega), jn1_e, gd_nI h8 (by omega), jn1_e, gd_nI hk (by omega), nI_clamp (show k < 2 ^ 31 by omega)]
      unfold f_X3_trialDoesAs
      refine (congrArg (fun o => bd2 o _) x1).trans ?_
      rw [bd2_e, jn1_e, nI_1]
      cases B <;> rfl
    rw [x3, x4]
    exact ih (f + 1) r R4 _ t' m9 (by omega) hL9 hK
theorem read_2 {n : NS} {m : MS} {k N M p z : Nat} (h : Rel n m) (hI : HI N M (g4_d m)) (hR : RH N (g4_d m) (g3_house n)) (hk : k < 4) (hz : z ≤ 40) (hp : p < N) (hs : g4_sizeOf m k = nI z) : ∀ (j kd r r4 : Nat) (v : Int32) (t : HS) (ml : MS), kd + j = 6 → Lm m ml (g4_d m) → Op2 (lp_X3_read_23 (nI k) (nI p) (r + 1 + j) (nI kd) v (s3_trial n t)) (lp_X4_read_51 (nI k) (nI p) (r4 + 1 + 100 * j) (nI (100 * kd)) v ml) := by
  intro j
  induction j with
  | zero =>
    intro kd r r4 v t ml hk2 hL
    rw [Nat.add_zero, Nat.mul_zero, Nat.add_zero, lp_X3_read_23, lp_X4_read_51, show kd = 6 by omega, if_pos (show (6 : Int32) ≤ nI 6 by decide), if_pos (show (600 : Int32) ≤ nI (100 * 6) by decide)]
    exact op_r (n' := n) (m' := m) rfl (Rel_t (Lm_rel h hL) _)
  | succ j ih =>
    intro kd r r4 v t ml hk2 hL
    obtain ⟨q, eF⟩ := FU_1 100 (by omega)
    rw [show r + 1 + (j + 1) = (r + 1 + j) + 1 by omega, lp_X3_read_23, if_neg (show ¬ (6 : Int32) ≤ nI kd from nle (a := kd) (b := 6) (by omega) (by omega) (by omega)), eF, show r4 + 1 + 100 * (j + 1) = (r4 + 1 + 100 * j) + 100 by omega]
    refine read_1 h hI hR hk hz hp hs _ (kd := kd) (by omega) 100 0 q (r4 + 1 + 100 * j) v t ml (by omega) hL (fun u v t ml hL => ?_)
    show Op2 (lp_X3_read_23 (nI k) (nI p) (r + 1 + j) (nI kd + 1) v (s3_trial n t)) _
    rw [nI_1]
    exact ih (kd + 1) r r4 v t ml (by omega) hL
theorem read_3 {n : NS} {m m1 : MS} {k N M p z : Nat} (h : Rel n m) (hI : HI N M (g4_d m)) (hR : RH N (g4_d m) (g3_house n)) (hk : k < 4) (hz : z ≤ 40) (hp : p < N) (hs : g4_sizeOf m k = nI z) (hL : Lm m m1 (g4_d m)) : Op2 (lp_X3_read_23 (nI k) (nI p) FU 0 0 (s3_trial n (g3_trial n))) (lp_X4_read_51 (nI k) (nI p) FU 0 0 m1) := by
  obtain ⟨r, e⟩ := FU_1 6 (by omega)
  obtain ⟨r4, e4⟩ := FU_1 600 (by omega)
  have g := read_2 h hI hR hk hz hp hs 6 0 r r4 0 (g3_trial n) m1 (by omega) hL
  rw [show 100 * 6 = 600 from rfl, ← e, ← e4, show 100 * 0 = 0 from rfl, show nI 0 = (0 : Int32) from rfl] at g
  exact g
theorem op_read {n : NS} {m : MS} (h : Rel n m) (p1 p2 : Int32) : Op2 (f_X3_read n p1 p2) (f_X4_read m p1 p2) := by
  obtain ⟨N, M, hI, hR⟩ := h.1
  have hN := hI.2.1
  unfold f_X3_read f_X4_read
  obtain ⟨F, hF⟩ : ∃ F, F = FU := ⟨_, rfl⟩
  rw [← hF]
  rcases refusal_c h hI hR p1 p2 with ⟨e1, r2, e2, e3⟩ | ⟨e1, r2, e2, e3⟩ | ⟨e1, ⟨r2, e2, e3⟩, k, p, hk, rfl, hp, rfl⟩
  · rw [e1, e2, bd1_e, bd1_e, e3, bd1_e, if_neg (by decide), if_neg (by decide)]; exact op_f0 h
  · rw [e1, e2, bd1_e, bd1_e, e3, bd1_e, if_neg (by decide), if_neg (by decide)]; exact op_f5 h
  · obtain ⟨a1, a2, ⟨z, hz, a3⟩, a4⟩ := h.2.2.2.2.2 k hk
    obtain ⟨m1, em1, hL1⟩ := Lm_start m
    rw [e1, e2, bd1_e, bd1_e, e3, bd1_e, if_pos rfl, if_pos (by decide), em1, bd1_e]
    have g := read_3 h hI hR hk hz hp a3 hL1
    rw [← hF] at g
    exact g
