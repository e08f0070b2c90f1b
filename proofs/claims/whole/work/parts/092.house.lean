/-! PURE 1: what one does, how it is noted, how it stales: the reference's row d, the class's house h -/
theorem its_e {m : MS} {p w : Nat} (hp : p < 8) (hw : w < 4) : f_X4_its m (nI p) (nI w) = some (g4_d m (35 + 4 * p + w)) := by
  unfold f_X4_its
  rw [ix_its, gd_nI (by omega) (by omega), nI_clamp (by omega)]
theorem its0 {m : MS} {p : Nat} (hp : p < 8) : f_X4_its m (nI p) 0 = some (g4_d m (35 + 4 * p)) := its_e (w := 0) hp (by decide)
theorem its1 {m : MS} {p : Nat} (hp : p < 8) : f_X4_its m (nI p) 1 = some (g4_d m (35 + 4 * p + 1)) := its_e (w := 1) hp (by decide)
theorem its2 {m : MS} {p : Nat} (hp : p < 8) : f_X4_its m (nI p) 2 = some (g4_d m (35 + 4 * p + 2)) := its_e (w := 2) hp (by decide)
theorem its3 {m : MS} {p : Nat} (hp : p < 8) : f_X4_its m (nI p) 3 = some (g4_d m (35 + 4 * p + 3)) := its_e (w := 3) hp (by decide)
theorem sets_e {m : MS} {p w : Nat} (hp : p < 8) (hw : w < 4) (v : Int32) : f_X4_sets m (nI p) (nI w) v = some (s4_d m (upd (g4_d m) (35 + 4 * p + w) v)) := by
  unfold f_X4_sets
  rw [ix_its, gd_nI (by omega) (by omega), nI_clamp (by omega), jn1_e]
theorem sets0 {m : MS} {p : Nat} (hp : p < 8) (v : Int32) : f_X4_sets m (nI p) 0 v = some (s4_d m (upd (g4_d m) (35 + 4 * p) v)) := sets_e (w := 0) hp (by decide) v
theorem sets1 {m : MS} {p : Nat} (hp : p < 8) (v : Int32) : f_X4_sets m (nI p) 1 v = some (s4_d m (upd (g4_d m) (35 + 4 * p + 1) v)) := sets_e (w := 1) hp (by decide) v
theorem sets2 {m : MS} {p : Nat} (hp : p < 8) (v : Int32) : f_X4_sets m (nI p) 2 v = some (s4_d m (upd (g4_d m) (35 + 4 * p + 2) v)) := sets_e (w := 2) hp (by decide) v
theorem sets3 {m : MS} {p : Nat} (hp : p < 8) (v : Int32) : f_X4_sets m (nI p) 3 v = some (s4_d m (upd (g4_d m) (35 + 4 * p + 3) v)) := sets_e (w := 3) hp (by decide) v
theorem isPerson_e {m : MS} {N M : Nat} (hI : HI N M (g4_d m)) (x : Int32) : f_X4_isPerson m x = some (pin N x) := by
  unfold f_X4_isPerson
  rw [gd0, cl0, hI.1, in_c 0 (nI N - 1) (by decide) rfl, bd1_e]
  rfl
theorem isThere_e {n : NS} {N : Nat} (h : g0_people (g3_house n) = nI N) (x : Int32) : f_X3_isThere n x = some (pin N x) := by
  unfold f_X3_isThere
  rw [h, isIn_e, bd1_e]
  rfl
theorem pin_pred {N p : Nat} (hN : N ≤ 8) (hp : p < N) : pin N (nI p - 1) = decide (0 < p) := by
  rcases Nat.eq_zero_or_pos p with h | h
  · subst h
    rw [decide_eq_false (Nat.lt_irrefl 0)]
    exact rng_f.mpr (Or.inl (by decide))
  · rw [decide_eq_true h]
    obtain ⟨k, rfl⟩ : ∃ k, p = k + 1 := ⟨p - 1, by omega⟩
    rw [nI_pred]
    exact pin_nI hN (by omega)
theorem pin_succ {N p : Nat} (hN : N ≤ 8) (hp : p < N) : pin N (nI p + 1) = decide (p + 1 < N) := by
  rw [nI_1]
  by_cases h : p + 1 < N
  · rw [decide_eq_true h]
    exact pin_nI hN h
  · rw [decide_eq_false h, show p + 1 = N by omega]
    refine rng_f.mpr (Or.inr ?_)
    have e : nI N - 1 = nI p := by rw [show N = p + 1 by omega, nI_pred]
    rw [e]
    exact nI_lt hp (by omega)
/-- a neighbour did v -/
def nbr (d : FI) (N p : Nat) (v : Int32) : Bool := (decide (0 < p) && decide (d (35 + 4 * (p - 1) + 3) = v)) || (decide (p + 1 < N) && decide (d (35 + 4 * (p + 1) + 3) = v))
theorem isBeside_e {m : MS} {N M : Nat} (hI : HI N M (g4_d m)) {p : Nat} (hp : p < N) (v : Int32) : f_X4_isBeside m (nI p) v = some (nbr (g4_d m) N p v) := by
  have hN := hI.2.1
  unfold f_X4_isBeside nbr
  simp only [isPerson_e hI, pin_pred hN hp, pin_succ hN hp, bd1_e, bI_0]
  have e2 : nI p + 1 = nI (p + 1) := nI_1 p
  by_cases h1 : 0 < p
  · have e1 : nI p - 1 = nI (p - 1) := by
      obtain ⟨k, rfl⟩ : ∃ k, p = k + 1 := ⟨p - 1, by omega⟩
      rw [nI_pred]; rfl
    by_cases h2 : p + 1 < N
    · simp only [h1, h2, decide_true, e1, e2, its3 (show p - 1 < 8 by omega), its3 (show p + 1 < 8 by omega), bd1_e, Bool.true_and, reduceCtorEq, if_false]
      by_cases h3 : g4_d m (35 + 4 * (p - 1) + 3) = v
      · simp [h3]
      · by_cases h4 : g4_d m (35 + 4 * (p + 1) + 3) = v <;> simp [h3, h4]
    · simp only [h1, h2, decide_true, decide_false, e1, its3 (show p - 1 < 8 by omega), bd1_e, Bool.true_and, Bool.false_and, Bool.or_false, reduceCtorEq, if_false, if_true]
      by_cases h3 : g4_d m (35 + 4 * (p - 1) + 3) = v <;> simp [h3]
  · by_cases h2 : p + 1 < N
    · simp only [h1, h2, decide_true, decide_false, e2, its3 (show p + 1 < 8 by omega), bd1_e, Bool.true_and, Bool.false_and, Bool.false_or, reduceCtorEq, if_false, if_true]
      by_cases h4 : g4_d m (35 + 4 * (p + 1) + 3) = v <;> simp [h4]
    · simp [h1, h2]
theorem neighbourDid_e {d : FI} {h : HS} {N M : Nat} (hI : HI N M d) (hR : RH N d h) {p : Nat} (hp : p < N) (v : Int32) : f_X0_neighbourDid h (nI p) v = some (nbr d N p v) := by
  have hN := hI.2.1
  have hP : g0_people h = nI N := hR.1.trans hI.1
  have e2 : nI p + 1 = nI (p + 1) := nI_1 p
  have hle : (nI N ≤ nI (p + 1)) ↔ ¬ (p + 1 < N) := by rw [nI_leI (by omega) (by omega)]; omega
  have hle0 : (nI p ≤ 0) ↔ ¬ (0 < p) := by
    have := nI_leI (a := p) (b := 0) (by omega) (by omega)
    rw [nI_0] at this
    rw [this]; omega
  unfold f_X0_neighbourDid nbr
  simp only [hP, e2, hle, hle0]
  by_cases h1 : 0 < p
  · have e1 : nI p - 1 = nI (p - 1) := by
      obtain ⟨k, rfl⟩ : ∃ k, p = k + 1 := ⟨p - 1, by omega⟩
      rw [nI_pred]; rfl
    have q1 := (hR.2.2.2.2.2 (p - 1) (by omega)).2.2.2
    by_cases h2 : p + 1 < N
    · have q2 := (hR.2.2.2.2.2 (p + 1) h2).2.2.2
      simp only [h1, h2, not_true, if_false, e1, gd_nI (show p - 1 < 8 by omega) (by omega), gd_nI (show p + 1 < 8 by omega) (by omega), nI_clamp (show p - 1 < 2 ^ 31 by omega), nI_clamp (show p + 1 < 2 ^ 31 by omega), q1, q2, decide_true, Bool.true_and]
      by_cases h3 : d (35 + 4 * (p - 1) + 3) = v
      · simp [h3]
      · by_cases h4 : d (35 + 4 * (p + 1) + 3) = v <;> simp [h3, h4]
    · simp only [h1, h2, not_true, not_false_iff, if_false, if_true, e1, gd_nI (show p - 1 < 8 by omega) (by omega), nI_clamp (show p - 1 < 2 ^ 31 by omega), q1, decide_true, decide_false, Bool.true_and, Bool.false_and, Bool.or_false]
      by_cases h3 : d (35 + 4 * (p - 1) + 3) = v <;> simp [h3]
  · by_cases h2 : p + 1 < N
    · have q2 := (hR.2.2.2.2.2 (p + 1) h2).2.2.2
      simp only [h1, h2, not_true, not_false_iff, if_false, if_true, gd_nI (show p + 1 < 8 by omega) (by omega), nI_clamp (show p + 1 < 2 ^ 31 by omega), q2, decide_true, decide_false, Bool.true_and, Bool.false_and, Bool.false_or]
      by_cases h4 : d (35 + 4 * (p + 1) + 3) = v <;> simp [h4]
    · simp [h1, h2]
/-- what one does -/
def sitD (d : FI) (M p : Nat) : Int32 := if d (35 + 4 * p + 1) < d (19 + M) then 0 else d (3 + M)
def couD (d : FI) (N M p : Nat) : Int32 := if nbr d N p 3 = false then sitD d M p else 3
def weeD (d : FI) (M p : Nat) : Int32 := if d (35 + 4 * p + 1) < 40 then sitD d M p else if d (3 + M) = 2 then sitD d M p else 1
def deed (d : FI) (N M p : Nat) : Int32 :=
  if d (35 + 4 * p) = 1 then couD d N M p else if d (35 + 4 * p) = 2 then weeD d M p else if d (35 + 4 * p) = 3 then 0 else
  if d (35 + 4 * p) = 4 then (if d (3 + M) = 4 then 4 else if nI M - nI M / 8 * 8 = 7 then 4 else couD d N M p) else
  if d (35 + 4 * p) = 5 then (if nbr d N p 1 = false then weeD d M p else 1) else sitD d M p
theorem gdc {α : Type} {M : Nat} {x : Option α} (hM : M < 16) : gd ((3 : Int32) + nI M) 67 x = x := by rw [ix_cue]; exact gd_nI (by omega) (by omega)
theorem gdt {α : Type} {M : Nat} {x : Option α} (hM : M < 16) : gd ((19 : Int32) + nI M) 67 x = x := by rw [ix_ten]; exact gd_nI (by omega) (by omega)
theorem clc {M : Nat} (hM : M < 16) : ((3 : Int32) + nI M).toNatClampNeg = 3 + M := by rw [ix_cue]; exact nI_clamp (by omega)
theorem clt {M : Nat} (hM : M < 16) : ((19 : Int32) + nI M).toNatClampNeg = 19 + M := by rw [ix_ten]; exact nI_clamp (by omega)
theorem some_ite {α : Type} {c : Prop} [i : Decidable c] {a b : α} : (if c then some a else some b) = some (if c then a else b) := by by_cases h : c <;> simp [h]
theorem doesNow_e {m : MS} {N M : Nat} (hI : HI N M (g4_d m)) {p : Nat} (hp : p < N) : f_X4_doesNow m (nI p) = some (deed (g4_d m) N M p) := by
  have hN := hI.2.1
  have hM := hI.2.2.2.1
  have h8 : p < 8 := by omega
  unfold f_X4_doesNow deed couD weeD sitD
  simp only [gd2, cl2, hI.2.2.1, gdc hM, gdt hM, clc hM, clt hM, its0 h8, its1 h8, isBeside_e hI hp, bd1_e, jn1_e, bI_0, some_ite]
theorem sitterDeed_e {d : FI} {h : HS} {N M : Nat} (hI : HI N M d) (hR : RH N d h) {p : Nat} (hp : p < N) : f_X0_sitterDeed h (nI p) = some (sitD d M p) := by
  have hN := hI.2.1
  have hM := hI.2.2.2.1
  have hm : g0_moment h = nI M := hR.2.2.1.trans hI.2.2.1
  obtain ⟨q0, q1, q2, q3⟩ := hR.2.2.2.2.2 p hp
  unfold f_X0_sitterDeed sitD
  simp only [hm, gd_nI (show p < 8 by omega) (by omega), gd_nI hM (by omega), nI_clamp (show p < 2 ^ 31 by omega), nI_clamp (show M < 2 ^ 31 by omega), q1, hR.2.2.2.1 M hM, hR.2.2.2.2.1 M hM, some_ite]
theorem cougherDeed_e {d : FI} {h : HS} {N M : Nat} (hI : HI N M d) (hR : RH N d h) {p : Nat} (hp : p < N) : f_X0_cougherDeed h (nI p) = some (couD d N M p) := by
  unfold f_X0_cougherDeed couD
  simp only [neighbourDid_e hI hR hp, sitterDeed_e hI hR hp, bd1_e, bI_0, some_ite]
theorem weeperDeed_e {d : FI} {h : HS} {N M : Nat} (hI : HI N M d) (hR : RH N d h) {p : Nat} (hp : p < N) : f_X0_weeperDeed h (nI p) = some (weeD d M p) := by
  have hN := hI.2.1
  have hM := hI.2.2.2.1
  have hm : g0_moment h = nI M := hR.2.2.1.trans hI.2.2.1
  obtain ⟨q0, q1, q2, q3⟩ := hR.2.2.2.2.2 p hp
  unfold f_X0_weeperDeed weeD
  simp only [hm, gd_nI (show p < 8 by omega) (by omega), gd_nI hM (by omega), nI_clamp (show p < 2 ^ 31 by omega), nI_clamp (show M < 2 ^ 31 by omega), q1, hR.2.2.2.1 M hM, sitterDeed_e hI hR hp, bd1_e, some_ite]
theorem deedOf_e {d : FI} {h : HS} {N M : Nat} (hI : HI N M d) (hR : RH N d h) {p : Nat} (hp : p < N) : f_X0_deedOf h (nI p) = some (deed d N M p) := by
  have hN := hI.2.1
  have hM := hI.2.2.2.1
  have hm : g0_moment h = nI M := hR.2.2.1.trans hI.2.2.1
  obtain ⟨q0, q1, q2, q3⟩ := hR.2.2.2.2.2 p hp
  unfold f_X0_deedOf deed
  simp only [hm, gd_nI (show p < 8 by omega) (by omega), gd_nI hM (by omega), nI_clamp (show p < 2 ^ 31 by omega), nI_clamp (show M < 2 ^ 31 by omega), q0, hR.2.2.2.1 M hM, cougherDeed_e hI hR hp, weeperDeed_e hI hR hp, sitterDeed_e hI hR hp, neighbourDid_e hI hR hp, bd1_e, bI_0, some_ite]
/-- held -/
def hld (v lo hi : Int32) : Int32 := if lo ≤ v then if v ≤ hi then v else hi else lo
theorem held4_e (v lo hi : Int32) : f_X4_held v lo hi = some (hld v lo hi) := by unfold f_X4_held hld; simp only [some_ite]
theorem held3_e {v lo hi : Int32} (h : lo ≤ hi) : f_X3_held v lo hi = some (hld v lo hi) := by
  unfold f_X3_held hld
  refine congrArg some ?_
  rw [i32_le] at h
  by_cases h1 : v < hi
  · have h1' := (i32_lt _ _).mp h1
    have g1 : v ≤ hi := (i32_le _ _).mpr (by omega)
    rw [if_pos h1]
    by_cases h2 : lo < v
    · have h2' := (i32_lt _ _).mp h2
      rw [if_pos h2, if_pos ((i32_le _ _).mpr (by omega)), if_pos g1]
    · have h2' : ¬ lo.toInt < v.toInt := fun z => h2 ((i32_lt _ _).mpr z)
      rw [if_neg h2]
      by_cases h3 : lo ≤ v
      · have h3' := (i32_le _ _).mp h3
        rw [if_pos h3, if_pos g1]
        exact Int32.toInt_inj.mp (by omega)
      · rw [if_neg h3]
  · have h1' : ¬ v.toInt < hi.toInt := fun z => h1 ((i32_lt _ _).mpr z)
    have g3 : lo ≤ v := (i32_le _ _).mpr (by omega)
    rw [if_neg h1, if_pos g3]
    by_cases h2 : lo < hi
    · rw [if_pos h2]
      by_cases h4 : v ≤ hi
      · have h4' := (i32_le _ _).mp h4
        rw [if_pos h4]
        exact Int32.toInt_inj.mp (by omega)
      · rw [if_neg h4]
    · have h2' : ¬ lo.toInt < hi.toInt := fun z => h2 ((i32_lt _ _).mpr z)
      rw [if_neg h2]
      by_cases h4 : v ≤ hi
      · have h4' := (i32_le _ _).mp h4
        rw [if_pos h4]
        exact Int32.toInt_inj.mp (by omega)
      · rw [if_neg h4]
        exact Int32.toInt_inj.mp (by omega)
/-- how one is noted -/
def sitS (d q : Int32) : Int32 := if d = q then 3 else if d = 0 then -1 else -2
def couS (d q : Int32) : Int32 := if d = 3 then if q = 3 then 5 else sitS d q else sitS d q
def weeS (d q : Int32) : Int32 := sitS d q + (if d = 1 then 1 else 0)
def sco (k d q : Int32) : Int32 :=
  if k = 1 then couS d q else if k = 2 then weeS d q else if k = 3 then (if q = 0 then 1 else -3) else if k = 4 then couS d q - (if d = 4 then 2 else 0) else if k = 5 then hld (weeS d q) 0 99 else sitS d q
theorem scoresFor_e {m : MS} {p : Nat} (hp : p < 8) (d q : Int32) : f_X4_scoresFor m (nI p) d q = some (sco (g4_d m (35 + 4 * p)) d q) := by
  unfold f_X4_scoresFor sco couS weeS sitS
  simp only [its0 hp, bd1_e, jn1_e, held4_e, some_ite]
theorem sitS3_e (d q : Int32) : f_X3_sitterScore d q = some (sitS d q) := by unfold f_X3_sitterScore sitS; simp only [some_ite]
theorem couS3_e (d q : Int32) : f_X3_cougherScore d q = some (couS d q) := by unfold f_X3_cougherScore couS; simp only [sitS3_e, bd1_e, some_ite]
theorem weeS3_e (d q : Int32) : f_X3_weeperScore d q = some (weeS d q) := by
  unfold f_X3_weeperScore weeS
  simp only [sitS3_e, bd1_e, some_ite]
  by_cases h : d = 1
  · simp [h]
  · simp [h]
theorem sitS_r (d q : Int32) : sitS d q = 3 ∨ sitS d q = -1 ∨ sitS d q = -2 := by unfold sitS; split <;> (try split) <;> simp
theorem wee_max (d q : Int32) : (if 0 < weeS d q then weeS d q else 0) = hld (weeS d q) 0 99 := by
  unfold weeS hld
  rcases sitS_r d q with h | h | h <;> rw [h] <;> split <;> decide
theorem scoreFor3_e (k d q : Int32) : f_X3_scoreFor k d q = some (sco k d q) := by
  unfold f_X3_scoreFor sco
  simp only [sitS3_e, couS3_e, weeS3_e, bd1_e, some_ite, wee_max]
  by_cases h4 : d = 4
  · simp [h4]
  · simp [h4]
/-- how one stales -/
def stl (k : Int32) : Int32 := if k = 1 then 3 else if k = 2 then 8 else if k = 3 then -5 else if k = 4 then 0 else if k = 5 then 5 else 4
theorem stales_e {m : MS} {p : Nat} (hp : p < 8) : f_X4_stales m (nI p) = some (stl (g4_d m (35 + 4 * p))) := by
  unfold f_X4_stales stl
  simp only [its0 hp, bd1_e, some_ite]
theorem staleness_e (k : Int32) : f_X3_staleness k = some (stl k) := by unfold f_X3_staleness stl; simp only [some_ite]
