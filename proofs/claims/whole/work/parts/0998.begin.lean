/-! PURE 13: both sides begin alike -/
theorem start_l : ∀ (j i r : Nat) (h : HS) (d : FI), i + j = 16 → HI 0 0 d → RH 0 d h → ∃ h' d', lp_X0_init_77 (r + 1 + j) (nI i) h = some h' ∧ lp_X4_init_93 (r + 1 + j) (nI i) (s4_d zX4 d) = some (s4_d zX4 d') ∧ HI 0 0 d' ∧ RH 0 d' h' := by
  intro j
  induction j with
  | zero =>
    intro i r h d hi hI hR
    refine ⟨h, d, ?_, ?_, hI, hR⟩
    · rw [Nat.add_zero, lp_X0_init_77, show i = 16 by omega, if_pos (show (16 : Int32) ≤ nI 16 by decide)]
    · rw [Nat.add_zero, lp_X4_init_93, show i = 16 by omega, if_pos (show (16 : Int32) ≤ nI 16 by decide)]
  | succ j ih =>
    intro i r h d hi hI hR
    have h16 : i < 16 := by omega
    have g : ¬ (16 : Int32) ≤ nI i := nle (a := i) (b := 16) (by omega) (by omega) (by omega)
    obtain ⟨a, b⟩ := RHI_cue hI hR h16 (nI i - nI i / (5 : Int32) * (5 : Int32))
    obtain ⟨a2, b2⟩ := RHI_ten a b h16 5
    obtain ⟨h', d', e1, e2, c1, c2⟩ := ih (i + 1) r _ _ (by omega) a2 b2
    refine ⟨h', d', ?_, ?_, c1, c2⟩
    · rw [show r + 1 + (j + 1) = (r + 1 + j) + 1 by omega, lp_X0_init_77, if_neg g, gd_nI h16 (by omega), nI_clamp (show i < 2 ^ 31 by omega), jn1_e, gd_nI h16 (by omega), jn1_e, nI_1]
      exact e1
    · rw [show r + 1 + (j + 1) = (r + 1 + j) + 1 by omega, lp_X4_init_93, if_neg g, gdc h16, clc h16, jn1_e, gdt h16, clt h16, jn1_e, nI_1]
      exact e2
theorem start : ∃ h' m', f_X0_init zX0 = some h' ∧ f_X4_init zX4 = some m' ∧ Rel (zX3 h') m' := by
  obtain ⟨r, e⟩ := FU_1 16 (by omega)
  have hI : HI 0 0 (g4_d zX4) := ⟨rfl, by omega, rfl, by omega, fun p hp => absurd hp (by omega)⟩
  have hR : RH 0 (g4_d zX4) zX0 := ⟨rfl, rfl, rfl, fun _ _ => rfl, fun _ _ => rfl, fun p hp => absurd hp (by omega)⟩
  obtain ⟨h', d', e1, e2, c1, c2⟩ := start_l 16 0 r zX0 _ (by omega) hI hR
  refine ⟨h', s4_d zX4 d', ?_, ?_, ⟨0, 0, c1, c2⟩, rfl, Or.inl rfl, fun _ _ => rfl, ⟨0, by omega, rfl, rfl, fun i hi => absurd hi (by omega)⟩, fun k hk => ⟨rfl, rfl, ⟨0, by omega, rfl⟩, fun i hi => rfl⟩⟩
  · unfold f_X0_init
    rw [e]
    exact e1
  · unfold f_X4_init
    rw [e]
    exact e2
