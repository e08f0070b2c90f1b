def f_X4_in (p1 : Int64) (p2 : Int64) (p3 : Int64) : Option (Bool) := if p1 < p2 then some (false) else if p3 < p1 then some (false) else some (true)
set_option maxHeartbeats 4000000 in
set_option maxRecDepth 100000 in
theorem c_X4_in (l : Launch) (E : EV)  (p1 : Int64) (p2 : Int64) (p3 : Int64)  (r : Bool) (hf : f_X4_in p1 p2 p3 = some r) : Ct l E yX4_in cX4_in 6 ((Option.some FieldType.boolean)) (rmk 0 0) [.long p1, .long p2, .long p3] ([] : va_W) ([] : va_W) (some (.int (bI r))) := by
  refine Ct.of (by decide) (Nat.le_of_ble_eq_true rfl) ?_
  intro p e s m below meth c A ls hC hP hD hl
  obtain ⟨hx, hb, hr, hml, hown, hlocks, hE, hA⟩ := hC
  have hts : ∀ w ∈ tbl, w.before [.long p1, .long p2, .long p3].toArray s = true := fun w hw => hE.w hw
  have hS : va_S A s.heap s.heap [] := va_S.rf
  have hl : lv_has ls 6 [(0, .long p1), (2, .long p2), (4, .long p3)] := hl
  unfold f_X4_in at hf
  refine lv_lload_n hx hb dX4_in_0 rfl (lv_at hl 0 rfl) ?_
  refine lv_lload_n hx hb dX4_in_1 rfl (lv_at hl 1 rfl) ?_
  refine W.lcmp hx hb dX4_in_2 ?_
  refine lv_if_lt (tgt := 17) hx hb dX4_in_3 (by decide) (fun c1 => ?_) (fun c1 => ?_)
  · have c1 := (lg_cmp_lt _ _).mp c1
    have hf := ip c1 hf
    refine lv_iconst (v := (0 : Int32)) hx hb dX4_in_17 (by decide) ?_
    obtain rfl := so1 hf
    exact rt_z (bI_nar _) hx hb hr hlocks hP hD hS dX4_in_18
  · have c1 := fun h => c1 ((lg_cmp_lt _ _).mpr h)
    have hf := im c1 hf
    refine lv_lload_n hx hb dX4_in_6 rfl (lv_at hl 0 rfl) ?_
    refine lv_lload hx hb dX4_in_7 (lv_at hl 2 rfl) ?_
    refine W.lcmp hx hb dX4_in_9 ?_
    refine lv_if_gt (tgt := 17) hx hb dX4_in_10 (by decide) (fun c2 => ?_) (fun c2 => ?_)
    · have c2 := (lg_cmp_gt _ _).mp c2
      have hf := ip c2 hf
      refine lv_iconst (v := (0 : Int32)) hx hb dX4_in_17 (by decide) ?_
      obtain rfl := so1 hf
      exact rt_z (bI_nar _) hx hb hr hlocks hP hD hS dX4_in_18
    · have c2 := fun h => c2 ((lg_cmp_gt _ _).mpr h)
      have hf := im c2 hf
      refine lv_iconst (v := (1 : Int32)) hx hb dX4_in_13 (by decide) ?_
      refine lv_goto (tgt := 18) hx hb dX4_in_14 (by decide) ?_
      obtain rfl := so1 hf
      exact rt_z (bI_nar _) hx hb hr hlocks hP hD hS dX4_in_18
def f_X4_held (p1 : Int32) (p2 : Int32) (p3 : Int32) : Option (Int32) := if p2 ≤ p1 then if p1 ≤ p3 then some (p1) else some (p3) else some (p2)
set_option maxHeartbeats 4000000 in
set_option maxRecDepth 100000 in
theorem c_X4_held (l : Launch) (E : EV)  (p1 : Int32) (p2 : Int32) (p3 : Int32)  (r : Int32) (hf : f_X4_held p1 p2 p3 = some r) : Ct l E yX4_held cX4_held 3 ((Option.some FieldType.int)) (rmk 0 0) [.int p1, .int p2, .int p3] ([] : va_W) ([] : va_W) (some (.int r)) := by
  refine Ct.of (by decide) (Nat.le_of_ble_eq_true rfl) ?_
  intro p e s m below meth c A ls hC hP hD hl
  obtain ⟨hx, hb, hr, hml, hown, hlocks, hE, hA⟩ := hC
  have hts : ∀ w ∈ tbl, w.before [.int p1, .int p2, .int p3].toArray s = true := fun w hw => hE.w hw
  have hS : va_S A s.heap s.heap [] := va_S.rf
  have hl : lv_has ls 3 [(0, .int p1), (1, .int p2), (2, .int p3)] := hl
  unfold f_X4_held at hf
  refine lv_iload_n hx hb dX4_held_0 rfl (lv_at hl 0 rfl) ?_
  refine lv_iload_n hx hb dX4_held_1 rfl (lv_at hl 1 rfl) ?_
  refine lv_icmp_ge (tgt := 9) hx hb dX4_held_2 (by decide) (fun c1 => ?_) (fun c1 => ?_)
  · have hf := ip c1 hf
    refine lv_iload_n hx hb dX4_held_9 rfl (lv_at hl 0 rfl) ?_
    refine lv_iload_n hx hb dX4_held_10 rfl (lv_at hl 2 rfl) ?_
    refine lv_icmp_le (tgt := 18) hx hb dX4_held_11 (by decide) (fun c2 => ?_) (fun c2 => ?_)
    · have hf := ip c2 hf
      refine lv_iload_n hx hb dX4_held_18 rfl (lv_at hl 0 rfl) ?_
      obtain rfl := so1 hf
      exact rt_i hx hb hr hlocks hP hD hS dX4_held_19
    · have hf := im c2 hf
      refine lv_iload_n hx hb dX4_held_14 rfl (lv_at hl 2 rfl) ?_
      refine lv_goto (tgt := 19) hx hb dX4_held_15 (by decide) ?_
      obtain rfl := so1 hf
      exact rt_i hx hb hr hlocks hP hD hS dX4_held_19
  · have hf := im c1 hf
    refine lv_iload_n hx hb dX4_held_5 rfl (lv_at hl 1 rfl) ?_
    refine lv_goto (tgt := 19) hx hb dX4_held_6 (by decide) ?_
    obtain rfl := so1 hf
    exact rt_i hx hb hr hlocks hP hD hS dX4_held_19
def f_X4_finds (m0 : MS) (p1 : Int32) : Option (Int32 × MS) := gd p1 7 (gd p1 7 (jn1 (s4_found m0 (upd (g4_found m0) p1.toNatClampNeg (((g4_found m0) p1.toNatClampNeg) + (1 : Int32)))) (fun m_3 => some (((-1000000001 : Int32) - p1), m_3))))
set_option maxHeartbeats 4000000 in
set_option maxRecDepth 100000 in
theorem c_X4_finds (l : Launch) (E : EV) (a : Nat → Nat) (m0 : MS) (p1 : Int32)  (r : Int32) (m0' : MS) (hf : f_X4_finds m0 p1 = some (r, m0')) : Ct l E yX4_finds cX4_finds 2 ((Option.some FieldType.int)) (rmk 0 0) [.ref (a 0), .int p1] (wX4 E a m0) (wX4 E a m0') (some (.int r)) := by
  refine Ct.of (by decide) (Nat.le_of_ble_eq_true rfl) ?_
  intro p e s m below meth c A ls hC hP hD hl
  obtain ⟨hx, hb, hr, hml, hown, hlocks, hE, hA⟩ := hC
  have hts : ∀ w ∈ tbl, w.before [.ref (a 0), .int p1].toArray s = true := fun w hw => hE.w hw
  have hS : va_S A s.heap s.heap [] := va_S.rf
  have hl : lv_has ls 2 [(0, .ref (a 0)), (1, .int p1)] := hl
  unfold f_X4_finds at hf
  refine lv_aload_n hx hb dX4_finds_0 rfl (lv_at hl 0 rfl) ?_
  refine va_get (D := E.1) (ci := 4) (v := .ref (a 6)) (C := RX4) (T := TX4) (N := 18) hx hb hts inX4 hown hE.2.1 hP 0 rfl rfl 5 (by decide) (hE.w tw_603) (fun _ h9 => h9) rfl dX4_finds_1 ?_
  refine lv_iload_n hx hb dX4_finds_4 rfl (lv_at hl 1 rfl) ?_
  refine lv_dup2_11 hx hb dX4_finds_5 rfl rfl ?_
  obtain ⟨hg1, hf⟩ := gd_some hf
  refine va_iald hx hb hE.2.1 hP 5 0 rfl rfl hg1 dX4_finds_6 ?_
  refine lv_iconst (v := (1 : Int32)) hx hb dX4_finds_7 (by decide) ?_
  refine lv_iadd hx hb dX4_finds_8 ?_
  obtain ⟨hg2, hf⟩ := gd_some hf
  obtain ⟨m_3, em_3, hf⟩ := jn1_some hf
  refine va_iast hx hb hE.2.1 hP hD hS 5 0 rfl rfl hg2 dX4_finds_9 (fun H locs hP hD hS => ?_)
  have hP : va_P E.1 vwCl (wX4 E a m_3) H := wst (by rw [em_3]; exact rfl) hP
  have hD : va_D A (wX4 E a m_3) := wsd (by rw [em_3]; exact rfl) hD
  refine lv_ldc (v := (-1000000001 : Int32)) hx hb hown (hE.w tw_670) dX4_finds_10 ?_
  refine lv_iload_n hx hb dX4_finds_12 rfl (lv_at hl 1 rfl) ?_
  refine lv_isub hx hb dX4_finds_13 ?_
  obtain ⟨rfl, rfl⟩ := so2 hf
  exact rt_i hx hb hr hlocks hP hD hS dX4_finds_14
def lp_X4_copies_d_aside_2  : Nat → (Int32) → (MS) → Option (MS)
  | 0, _, _ => none
  | k_1 + 1, v2_1, m0_1 => if (67 : Int32) ≤ v2_1 then some (m0_1) else gd v2_1 67 (gd v2_1 67 (jn1 (s4_aside m0_1 (upd (g4_aside m0_1) v2_1.toNatClampNeg ((g4_d m0_1) v2_1.toNatClampNeg))) (fun m_5 => lp_X4_copies_d_aside_2  k_1 (v2_1 + (1 : Int32)) m_5)))
def f_X4_copies_d_aside (m0 : MS) : Option (MS) := lp_X4_copies_d_aside_2  FU (0 : Int32) m0
set_option maxHeartbeats 4000000 in
set_option maxRecDepth 100000 in
theorem c_X4_copies_d_aside (l : Launch) (E : EV) (a : Nat → Nat) (m0 : MS)  (m0' : MS) (hf : f_X4_copies_d_aside m0 = some m0') : Ct l E yX4_copies cX4_copies 3 (none) (rmk 0 0) [.ref (a 1), .ref (a 3)] (wX4 E a m0) (wX4 E a m0') none := by
  refine Ct.of (by decide) (Nat.le_of_ble_eq_true rfl) ?_
  intro p e s m below meth c A ls hC hP hD hl
  obtain ⟨hx, hb, hr, hml, hown, hlocks, hE, hA⟩ := hC
  have hts : ∀ w ∈ tbl, w.before [.ref (a 1), .ref (a 3)].toArray s = true := fun w hw => hE.w hw
  have hS : va_S A s.heap s.heap [] := va_S.rf
  have hl : lv_has ls 3 [(0, .ref (a 1)), (1, .ref (a 3))] := hl
  unfold f_X4_copies_d_aside at hf
  refine lv_iconst (v := (0 : Int32)) hx hb dX4_copies_0 (by decide) ?_
  refine lv_istore_n (lv' := [(2, .int (0 : Int32)), (0, .ref (a 1)), (1, .ref (a 3))]) hx hb dX4_copies_1 rfl hl (by decide) rfl (fun ls hl => ?_)
  have L_1 : ∀ (k_1 : Nat) (v2_1 : Int32) (m0_1 : MS), lp_X4_copies_d_aside_2  k_1 v2_1 m0_1 = some m0' → ∀ (H : Heap) (locs : List Loc) (ls : Array Slot), va_P E.1 vwCl (wX4 E a m0_1) H → va_D A (wX4 E a m0_1) → va_S A s.heap H locs → lv_has ls 3 [(2, .int v2_1), (0, .ref (a 1)), (1, .ref (a 3))] → W p l e (rmk 0 0) s m [.ref (a 1), .ref (a 3)].toArray below meth c H locs 0 0 (MQ below (Qct E A (wX4 E a m0') none) [.ref (a 1), .ref (a 3)].toArray s 0 0 A) (F0 m 2 ls []) := by
    intro k_1
    induction k_1 with
    | zero =>
      intro v2_1 m0_1 hf
      rw [lp_X4_copies_d_aside_2] at hf
      cases hf
    | succ k_1 ih_1 =>
      intro v2_1 m0_1 hf H locs ls hP hD hS hl
      rw [lp_X4_copies_d_aside_2] at hf
      refine lv_iload_n hx hb dX4_copies_2 rfl (lv_at hl 0 rfl) ?_
      refine lv_bipush (v := (67 : Int32)) hx hb dX4_copies_3 (by decide) ?_
      refine lv_icmp_ge (tgt := 20) hx hb dX4_copies_5 (by decide) (fun c2 => ?_) (fun c2 => ?_)
      · have hf := ip c2 hf
        obtain rfl := so1 hf
        exact rt_v hx hb hr hlocks hP hD hS dX4_copies_20
      · have hf := im c2 hf
        refine lv_aload_n hx hb dX4_copies_8 rfl (lv_at hl 2 rfl) ?_
        refine lv_iload_n hx hb dX4_copies_9 rfl (lv_at hl 0 rfl) ?_
        refine lv_aload_n hx hb dX4_copies_10 rfl (lv_at hl 1 rfl) ?_
        refine lv_iload_n hx hb dX4_copies_11 rfl (lv_at hl 0 rfl) ?_
        obtain ⟨hg3, hf⟩ := gd_some hf
        refine va_iald hx hb hE.2.1 hP 1 0 rfl rfl hg3 dX4_copies_12 ?_
        obtain ⟨hg4, hf⟩ := gd_some hf
        obtain ⟨m_5, em_5, hf⟩ := jn1_some hf
        refine va_iast hx hb hE.2.1 hP hD hS 3 0 rfl rfl hg4 dX4_copies_13 (fun H locs hP hD hS => ?_)
        have hP : va_P E.1 vwCl (wX4 E a m_5) H := wst (by rw [em_5]; exact rfl) hP
        have hD : va_D A (wX4 E a m_5) := wsd (by rw [em_5]; exact rfl) hD
        refine lv_iinc (v := (v2_1 + (1 : Int32))) (lv' := [(2, .int (v2_1 + (1 : Int32))), (0, .ref (a 1)), (1, .ref (a 3))]) hx hb dX4_copies_14 hl (k := 0) rfl rfl (by decide) rfl (fun ls hl => ?_)
        refine lv_goto (tgt := 2) hx hb dX4_copies_17 (by decide) ?_
        exact ih_1 _ _ hf _ _ _ hP hD hS (lv_sub hl [0, 1, 2] rfl)
  exact L_1 _ _ _ hf _ _ _ hP hD hS (lv_sub hl [0, 1, 2] rfl)
def lp_X4_copies_aside_d_2  : Nat → (Int32) → (MS) → Option (MS)
  | 0, _, _ => none
  | k_1 + 1, v2_1, m0_1 => if (67 : Int32) ≤ v2_1 then some (m0_1) else gd v2_1 67 (gd v2_1 67 (jn1 (s4_d m0_1 (upd (g4_d m0_1) v2_1.toNatClampNeg ((g4_aside m0_1) v2_1.toNatClampNeg))) (fun m_5 => lp_X4_copies_aside_d_2  k_1 (v2_1 + (1 : Int32)) m_5)))
def f_X4_copies_aside_d (m0 : MS) : Option (MS) := lp_X4_copies_aside_d_2  FU (0 : Int32) m0
set_option maxHeartbeats 4000000 in
set_option maxRecDepth 100000 in
theorem c_X4_copies_aside_d (l : Launch) (E : EV) (a : Nat → Nat) (m0 : MS)  (m0' : MS) (hf : f_X4_copies_aside_d m0 = some m0') : Ct l E yX4_copies cX4_copies 3 (none) (rmk 0 0) [.ref (a 3), .ref (a 1)] (wX4 E a m0) (wX4 E a m0') none := by
  refine Ct.of (by decide) (Nat.le_of_ble_eq_true rfl) ?_
  intro p e s m below meth c A ls hC hP hD hl
  obtain ⟨hx, hb, hr, hml, hown, hlocks, hE, hA⟩ := hC
  have hts : ∀ w ∈ tbl, w.before [.ref (a 3), .ref (a 1)].toArray s = true := fun w hw => hE.w hw
  have hS : va_S A s.heap s.heap [] := va_S.rf
  have hl : lv_has ls 3 [(0, .ref (a 3)), (1, .ref (a 1))] := hl
  unfold f_X4_copies_aside_d at hf
  refine lv_iconst (v := (0 : Int32)) hx hb dX4_copies_0 (by decide) ?_
  refine lv_istore_n (lv' := [(2, .int (0 : Int32)), (0, .ref (a 3)), (1, .ref (a 1))]) hx hb dX4_copies_1 rfl hl (by decide) rfl (fun ls hl => ?_)
  have L_1 : ∀ (k_1 : Nat) (v2_1 : Int32) (m0_1 : MS), lp_X4_copies_aside_d_2  k_1 v2_1 m0_1 = some m0' → ∀ (H : Heap) (locs : List Loc) (ls : Array Slot), va_P E.1 vwCl (wX4 E a m0_1) H → va_D A (wX4 E a m0_1) → va_S A s.heap H locs → lv_has ls 3 [(2, .int v2_1), (0, .ref (a 3)), (1, .ref (a 1))] → W p l e (rmk 0 0) s m [.ref (a 3), .ref (a 1)].toArray below meth c H locs 0 0 (MQ below (Qct E A (wX4 E a m0') none) [.ref (a 3), .ref (a 1)].toArray s 0 0 A) (F0 m 2 ls []) := by
    intro k_1
    induction k_1 with
    | zero =>
      intro v2_1 m0_1 hf
      rw [lp_X4_copies_aside_d_2] at hf
      cases hf
    | succ k_1 ih_1 =>
      intro v2_1 m0_1 hf H locs ls hP hD hS hl
      rw [lp_X4_copies_aside_d_2] at hf
      refine lv_iload_n hx hb dX4_copies_2 rfl (lv_at hl 0 rfl) ?_
      refine lv_bipush (v := (67 : Int32)) hx hb dX4_copies_3 (by decide) ?_
      refine lv_icmp_ge (tgt := 20) hx hb dX4_copies_5 (by decide) (fun c2 => ?_) (fun c2 => ?_)
      · have hf := ip c2 hf
        obtain rfl := so1 hf
        exact rt_v hx hb hr hlocks hP hD hS dX4_copies_20
      · have hf := im c2 hf
        refine lv_aload_n hx hb dX4_copies_8 rfl (lv_at hl 2 rfl) ?_
        refine lv_iload_n hx hb dX4_copies_9 rfl (lv_at hl 0 rfl) ?_
        refine lv_aload_n hx hb dX4_copies_10 rfl (lv_at hl 1 rfl) ?_
        refine lv_iload_n hx hb dX4_copies_11 rfl (lv_at hl 0 rfl) ?_
        obtain ⟨hg3, hf⟩ := gd_some hf
        refine va_iald hx hb hE.2.1 hP 3 0 rfl rfl hg3 dX4_copies_12 ?_
        obtain ⟨hg4, hf⟩ := gd_some hf
        obtain ⟨m_5, em_5, hf⟩ := jn1_some hf
        refine va_iast hx hb hE.2.1 hP hD hS 1 0 rfl rfl hg4 dX4_copies_13 (fun H locs hP hD hS => ?_)
        have hP : va_P E.1 vwCl (wX4 E a m_5) H := wst (by rw [em_5]; exact rfl) hP
        have hD : va_D A (wX4 E a m_5) := wsd (by rw [em_5]; exact rfl) hD
        refine lv_iinc (v := (v2_1 + (1 : Int32))) (lv' := [(2, .int (v2_1 + (1 : Int32))), (0, .ref (a 3)), (1, .ref (a 1))]) hx hb dX4_copies_14 hl (k := 0) rfl rfl (by decide) rfl (fun ls hl => ?_)
        refine lv_goto (tgt := 2) hx hb dX4_copies_17 (by decide) ?_
        exact ih_1 _ _ hf _ _ _ hP hD hS (lv_sub hl [0, 1, 2] rfl)
  exact L_1 _ _ _ hf _ _ _ hP hD hS (lv_sub hl [0, 1, 2] rfl)
def lp_X4_copies_d_e_2  : Nat → (Int32) → (MS) → Option (MS)
  | 0, _, _ => none
  | k_1 + 1, v2_1, m0_1 => if (67 : Int32) ≤ v2_1 then some (m0_1) else gd v2_1 67 (gd v2_1 67 (jn1 (s4_e m0_1 (upd (g4_e m0_1) v2_1.toNatClampNeg ((g4_d m0_1) v2_1.toNatClampNeg))) (fun m_5 => lp_X4_copies_d_e_2  k_1 (v2_1 + (1 : Int32)) m_5)))
def f_X4_copies_d_e (m0 : MS) : Option (MS) := lp_X4_copies_d_e_2  FU (0 : Int32) m0
set_option maxHeartbeats 4000000 in
set_option maxRecDepth 100000 in
theorem c_X4_copies_d_e (l : Launch) (E : EV) (a : Nat → Nat) (m0 : MS)  (m0' : MS) (hf : f_X4_copies_d_e m0 = some m0') : Ct l E yX4_copies cX4_copies 3 (none) (rmk 0 0) [.ref (a 1), .ref (a 2)] (wX4 E a m0) (wX4 E a m0') none := by
  refine Ct.of (by decide) (Nat.le_of_ble_eq_true rfl) ?_
  intro p e s m below meth c A ls hC hP hD hl
  obtain ⟨hx, hb, hr, hml, hown, hlocks, hE, hA⟩ := hC
  have hts : ∀ w ∈ tbl, w.before [.ref (a 1), .ref (a 2)].toArray s = true := fun w hw => hE.w hw
  have hS : va_S A s.heap s.heap [] := va_S.rf
  have hl : lv_has ls 3 [(0, .ref (a 1)), (1, .ref (a 2))] := hl
  unfold f_X4_copies_d_e at hf
  refine lv_iconst (v := (0 : Int32)) hx hb dX4_copies_0 (by decide) ?_
  refine lv_istore_n (lv' := [(2, .int (0 : Int32)), (0, .ref (a 1)), (1, .ref (a 2))]) hx hb dX4_copies_1 rfl hl (by decide) rfl (fun ls hl => ?_)
  have L_1 : ∀ (k_1 : Nat) (v2_1 : Int32) (m0_1 : MS), lp_X4_copies_d_e_2  k_1 v2_1 m0_1 = some m0' → ∀ (H : Heap) (locs : List Loc) (ls : Array Slot), va_P E.1 vwCl (wX4 E a m0_1) H → va_D A (wX4 E a m0_1) → va_S A s.heap H locs → lv_has ls 3 [(2, .int v2_1), (0, .ref (a 1)), (1, .ref (a 2))] → W p l e (rmk 0 0) s m [.ref (a 1), .ref (a 2)].toArray below meth c H locs 0 0 (MQ below (Qct E A (wX4 E a m0') none) [.ref (a 1), .ref (a 2)].toArray s 0 0 A) (F0 m 2 ls []) := by
    intro k_1
    induction k_1 with
    | zero =>
      intro v2_1 m0_1 hf
      rw [lp_X4_copies_d_e_2] at hf
      cases hf
    | succ k_1 ih_1 =>
      intro v2_1 m0_1 hf H locs ls hP hD hS hl
      rw [lp_X4_copies_d_e_2] at hf
      refine lv_iload_n hx hb dX4_copies_2 rfl (lv_at hl 0 rfl) ?_
      refine lv_bipush (v := (67 : Int32)) hx hb dX4_copies_3 (by decide) ?_
      refine lv_icmp_ge (tgt := 20) hx hb dX4_copies_5 (by decide) (fun c2 => ?_) (fun c2 => ?_)
      · have hf := ip c2 hf
        obtain rfl := so1 hf
        exact rt_v hx hb hr hlocks hP hD hS dX4_copies_20
      · have hf := im c2 hf
        refine lv_aload_n hx hb dX4_copies_8 rfl (lv_at hl 2 rfl) ?_
        refine lv_iload_n hx hb dX4_copies_9 rfl (lv_at hl 0 rfl) ?_
        refine lv_aload_n hx hb dX4_copies_10 rfl (lv_at hl 1 rfl) ?_
        refine lv_iload_n hx hb dX4_copies_11 rfl (lv_at hl 0 rfl) ?_
        obtain ⟨hg3, hf⟩ := gd_some hf
        refine va_iald hx hb hE.2.1 hP 1 0 rfl rfl hg3 dX4_copies_12 ?_
        obtain ⟨hg4, hf⟩ := gd_some hf
        obtain ⟨m_5, em_5, hf⟩ := jn1_some hf
        refine va_iast hx hb hE.2.1 hP hD hS 2 0 rfl rfl hg4 dX4_copies_13 (fun H locs hP hD hS => ?_)
        have hP : va_P E.1 vwCl (wX4 E a m_5) H := wst (by rw [em_5]; exact rfl) hP
        have hD : va_D A (wX4 E a m_5) := wsd (by rw [em_5]; exact rfl) hD
        refine lv_iinc (v := (v2_1 + (1 : Int32))) (lv' := [(2, .int (v2_1 + (1 : Int32))), (0, .ref (a 1)), (1, .ref (a 2))]) hx hb dX4_copies_14 hl (k := 0) rfl rfl (by decide) rfl (fun ls hl => ?_)
        refine lv_goto (tgt := 2) hx hb dX4_copies_17 (by decide) ?_
        exact ih_1 _ _ hf _ _ _ hP hD hS (lv_sub hl [0, 1, 2] rfl)
  exact L_1 _ _ _ hf _ _ _ hP hD hS (lv_sub hl [0, 1, 2] rfl)
def lp_X4_copies_e_d_2  : Nat → (Int32) → (MS) → Option (MS)
  | 0, _, _ => none
  | k_1 + 1, v2_1, m0_1 => if (67 : Int32) ≤ v2_1 then some (m0_1) else gd v2_1 67 (gd v2_1 67 (jn1 (s4_d m0_1 (upd (g4_d m0_1) v2_1.toNatClampNeg ((g4_e m0_1) v2_1.toNatClampNeg))) (fun m_5 => lp_X4_copies_e_d_2  k_1 (v2_1 + (1 : Int32)) m_5)))
def f_X4_copies_e_d (m0 : MS) : Option (MS) := lp_X4_copies_e_d_2  FU (0 : Int32) m0
set_option maxHeartbeats 4000000 in
set_option maxRecDepth 100000 in
theorem c_X4_copies_e_d (l : Launch) (E : EV) (a : Nat → Nat) (m0 : MS)  (m0' : MS) (hf : f_X4_copies_e_d m0 = some m0') : Ct l E yX4_copies cX4_copies 3 (none) (rmk 0 0) [.ref (a 2), .ref (a 1)] (wX4 E a m0) (wX4 E a m0') none := by
  refine Ct.of (by decide) (Nat.le_of_ble_eq_true rfl) ?_
  intro p e s m below meth c A ls hC hP hD hl
  obtain ⟨hx, hb, hr, hml, hown, hlocks, hE, hA⟩ := hC
  have hts : ∀ w ∈ tbl, w.before [.ref (a 2), .ref (a 1)].toArray s = true := fun w hw => hE.w hw
  have hS : va_S A s.heap s.heap [] := va_S.rf
  have hl : lv_has ls 3 [(0, .ref (a 2)), (1, .ref (a 1))] := hl
  unfold f_X4_copies_e_d at hf
  refine lv_iconst (v := (0 : Int32)) hx hb dX4_copies_0 (by decide) ?_
  refine lv_istore_n (lv' := [(2, .int (0 : Int32)), (0, .ref (a 2)), (1, .ref (a 1))]) hx hb dX4_copies_1 rfl hl (by decide) rfl (fun ls hl => ?_)
  have L_1 : ∀ (k_1 : Nat) (v2_1 : Int32) (m0_1 : MS), lp_X4_copies_e_d_2  k_1 v2_1 m0_1 = some m0' → ∀ (H : Heap) (locs : List Loc) (ls : Array Slot), va_P E.1 vwCl (wX4 E a m0_1) H → va_D A (wX4 E a m0_1) → va_S A s.heap H locs → lv_has ls 3 [(2, .int v2_1), (0, .ref (a 2)), (1, .ref (a 1))] → W p l e (rmk 0 0) s m [.ref (a 2), .ref (a 1)].toArray below meth c H locs 0 0 (MQ below (Qct E A (wX4 E a m0') none) [.ref (a 2), .ref (a 1)].toArray s 0 0 A) (F0 m 2 ls []) := by
    intro k_1
    induction k_1 with
    | zero =>
      intro v2_1 m0_1 hf
      rw [lp_X4_copies_e_d_2] at hf
      cases hf
    | succ k_1 ih_1 =>
      intro v2_1 m0_1 hf H locs ls hP hD hS hl
      rw [lp_X4_copies_e_d_2] at hf
      refine lv_iload_n hx hb dX4_copies_2 rfl (lv_at hl 0 rfl) ?_
      refine lv_bipush (v := (67 : Int32)) hx hb dX4_copies_3 (by decide) ?_
      refine lv_icmp_ge (tgt := 20) hx hb dX4_copies_5 (by decide) (fun c2 => ?_) (fun c2 => ?_)
      · have hf := ip c2 hf
        obtain rfl := so1 hf
        exact rt_v hx hb hr hlocks hP hD hS dX4_copies_20
      · have hf := im c2 hf
        refine lv_aload_n hx hb dX4_copies_8 rfl (lv_at hl 2 rfl) ?_
        refine lv_iload_n hx hb dX4_copies_9 rfl (lv_at hl 0 rfl) ?_
        refine lv_aload_n hx hb dX4_copies_10 rfl (lv_at hl 1 rfl) ?_
        refine lv_iload_n hx hb dX4_copies_11 rfl (lv_at hl 0 rfl) ?_
        obtain ⟨hg3, hf⟩ := gd_some hf
        refine va_iald hx hb hE.2.1 hP 2 0 rfl rfl hg3 dX4_copies_12 ?_
        obtain ⟨hg4, hf⟩ := gd_some hf
        obtain ⟨m_5, em_5, hf⟩ := jn1_some hf
        refine va_iast hx hb hE.2.1 hP hD hS 1 0 rfl rfl hg4 dX4_copies_13 (fun H locs hP hD hS => ?_)
        have hP : va_P E.1 vwCl (wX4 E a m_5) H := wst (by rw [em_5]; exact rfl) hP
        have hD : va_D A (wX4 E a m_5) := wsd (by rw [em_5]; exact rfl) hD
        refine lv_iinc (v := (v2_1 + (1 : Int32))) (lv' := [(2, .int (v2_1 + (1 : Int32))), (0, .ref (a 2)), (1, .ref (a 1))]) hx hb dX4_copies_14 hl (k := 0) rfl rfl (by decide) rfl (fun ls hl => ?_)
        refine lv_goto (tgt := 2) hx hb dX4_copies_17 (by decide) ?_
        exact ih_1 _ _ hf _ _ _ hP hD hS (lv_sub hl [0, 1, 2] rfl)
  exact L_1 _ _ _ hf _ _ _ hP hD hS (lv_sub hl [0, 1, 2] rfl)
def lp_X4_copies_d_kept_2  : Nat → (Int32) → (MS) → Option (MS)
  | 0, _, _ => none
  | k_1 + 1, v2_1, m0_1 => if (67 : Int32) ≤ v2_1 then some (m0_1) else gd v2_1 67 (gd v2_1 67 (jn1 (s4_kept m0_1 (upd (g4_kept m0_1) v2_1.toNatClampNeg ((g4_d m0_1) v2_1.toNatClampNeg))) (fun m_5 => lp_X4_copies_d_kept_2  k_1 (v2_1 + (1 : Int32)) m_5)))
def f_X4_copies_d_kept (m0 : MS) : Option (MS) := lp_X4_copies_d_kept_2  FU (0 : Int32) m0
set_option maxHeartbeats 4000000 in
set_option maxRecDepth 100000 in
theorem c_X4_copies_d_kept (l : Launch) (E : EV) (a : Nat → Nat) (m0 : MS)  (m0' : MS) (hf : f_X4_copies_d_kept m0 = some m0') : Ct l E yX4_copies cX4_copies 3 (none) (rmk 0 0) [.ref (a 1), .ref (a 4)] (wX4 E a m0) (wX4 E a m0') none := by
  refine Ct.of (by decide) (Nat.le_of_ble_eq_true rfl) ?_
  intro p e s m below meth c A ls hC hP hD hl
  obtain ⟨hx, hb, hr, hml, hown, hlocks, hE, hA⟩ := hC
  have hts : ∀ w ∈ tbl, w.before [.ref (a 1), .ref (a 4)].toArray s = true := fun w hw => hE.w hw
  have hS : va_S A s.heap s.heap [] := va_S.rf
  have hl : lv_has ls 3 [(0, .ref (a 1)), (1, .ref (a 4))] := hl
  unfold f_X4_copies_d_kept at hf
  refine lv_iconst (v := (0 : Int32)) hx hb dX4_copies_0 (by decide) ?_
  refine lv_istore_n (lv' := [(2, .int (0 : Int32)), (0, .ref (a 1)), (1, .ref (a 4))]) hx hb dX4_copies_1 rfl hl (by decide) rfl (fun ls hl => ?_)
  have L_1 : ∀ (k_1 : Nat) (v2_1 : Int32) (m0_1 : MS), lp_X4_copies_d_kept_2  k_1 v2_1 m0_1 = some m0' → ∀ (H : Heap) (locs : List Loc) (ls : Array Slot), va_P E.1 vwCl (wX4 E a m0_1) H → va_D A (wX4 E a m0_1) → va_S A s.heap H locs → lv_has ls 3 [(2, .int v2_1), (0, .ref (a 1)), (1, .ref (a 4))] → W p l e (rmk 0 0) s m [.ref (a 1), .ref (a 4)].toArray below meth c H locs 0 0 (MQ below (Qct E A (wX4 E a m0') none) [.ref (a 1), .ref (a 4)].toArray s 0 0 A) (F0 m 2 ls []) := by
    intro k_1
    induction k_1 with
    | zero =>
      intro v2_1 m0_1 hf
      rw [lp_X4_copies_d_kept_2] at hf
      cases hf
    | succ k_1 ih_1 =>
      intro v2_1 m0_1 hf H locs ls hP hD hS hl
      rw [lp_X4_copies_d_kept_2] at hf
      refine lv_iload_n hx hb dX4_copies_2 rfl (lv_at hl 0 rfl) ?_
      refine lv_bipush (v := (67 : Int32)) hx hb dX4_copies_3 (by decide) ?_
      refine lv_icmp_ge (tgt := 20) hx hb dX4_copies_5 (by decide) (fun c2 => ?_) (fun c2 => ?_)
      · have hf := ip c2 hf
        obtain rfl := so1 hf
        exact rt_v hx hb hr hlocks hP hD hS dX4_copies_20
      · have hf := im c2 hf
        refine lv_aload_n hx hb dX4_copies_8 rfl (lv_at hl 2 rfl) ?_
        refine lv_iload_n hx hb dX4_copies_9 rfl (lv_at hl 0 rfl) ?_
        refine lv_aload_n hx hb dX4_copies_10 rfl (lv_at hl 1 rfl) ?_
        refine lv_iload_n hx hb dX4_copies_11 rfl (lv_at hl 0 rfl) ?_
        obtain ⟨hg3, hf⟩ := gd_some hf
        refine va_iald hx hb hE.2.1 hP 1 0 rfl rfl hg3 dX4_copies_12 ?_
        obtain ⟨hg4, hf⟩ := gd_some hf
        obtain ⟨m_5, em_5, hf⟩ := jn1_some hf
        refine va_iast hx hb hE.2.1 hP hD hS 4 0 rfl rfl hg4 dX4_copies_13 (fun H locs hP hD hS => ?_)
        have hP : va_P E.1 vwCl (wX4 E a m_5) H := wst (by rw [em_5]; exact rfl) hP
        have hD : va_D A (wX4 E a m_5) := wsd (by rw [em_5]; exact rfl) hD
        refine lv_iinc (v := (v2_1 + (1 : Int32))) (lv' := [(2, .int (v2_1 + (1 : Int32))), (0, .ref (a 1)), (1, .ref (a 4))]) hx hb dX4_copies_14 hl (k := 0) rfl rfl (by decide) rfl (fun ls hl => ?_)
        refine lv_goto (tgt := 2) hx hb dX4_copies_17 (by decide) ?_
        exact ih_1 _ _ hf _ _ _ hP hD hS (lv_sub hl [0, 1, 2] rfl)
  exact L_1 _ _ _ hf _ _ _ hP hD hS (lv_sub hl [0, 1, 2] rfl)
def lp_X4_copies_kept_d_2  : Nat → (Int32) → (MS) → Option (MS)
  | 0, _, _ => none
  | k_1 + 1, v2_1, m0_1 => if (67 : Int32) ≤ v2_1 then some (m0_1) else gd v2_1 67 (gd v2_1 67 (jn1 (s4_d m0_1 (upd (g4_d m0_1) v2_1.toNatClampNeg ((g4_kept m0_1) v2_1.toNatClampNeg))) (fun m_5 => lp_X4_copies_kept_d_2  k_1 (v2_1 + (1 : Int32)) m_5)))
def f_X4_copies_kept_d (m0 : MS) : Option (MS) := lp_X4_copies_kept_d_2  FU (0 : Int32) m0
set_option maxHeartbeats 4000000 in
set_option maxRecDepth 100000 in
theorem c_X4_copies_kept_d (l : Launch) (E : EV) (a : Nat → Nat) (m0 : MS)  (m0' : MS) (hf : f_X4_copies_kept_d m0 = some m0') : Ct l E yX4_copies cX4_copies 3 (none) (rmk 0 0) [.ref (a 4), .ref (a 1)] (wX4 E a m0) (wX4 E a m0') none := by
  refine Ct.of (by decide) (Nat.le_of_ble_eq_true rfl) ?_
  intro p e s m below meth c A ls hC hP hD hl
  obtain ⟨hx, hb, hr, hml, hown, hlocks, hE, hA⟩ := hC
  have hts : ∀ w ∈ tbl, w.before [.ref (a 4), .ref (a 1)].toArray s = true := fun w hw => hE.w hw
  have hS : va_S A s.heap s.heap [] := va_S.rf
  have hl : lv_has ls 3 [(0, .ref (a 4)), (1, .ref (a 1))] := hl
  unfold f_X4_copies_kept_d at hf
  refine lv_iconst (v := (0 : Int32)) hx hb dX4_copies_0 (by decide) ?_
  refine lv_istore_n (lv' := [(2, .int (0 : Int32)), (0, .ref (a 4)), (1, .ref (a 1))]) hx hb dX4_copies_1 rfl hl (by decide) rfl (fun ls hl => ?_)
  have L_1 : ∀ (k_1 : Nat) (v2_1 : Int32) (m0_1 : MS), lp_X4_copies_kept_d_2  k_1 v2_1 m0_1 = some m0' → ∀ (H : Heap) (locs : List Loc) (ls : Array Slot), va_P E.1 vwCl (wX4 E a m0_1) H → va_D A (wX4 E a m0_1) → va_S A s.heap H locs → lv_has ls 3 [(2, .int v2_1), (0, .ref (a 4)), (1, .ref (a 1))] → W p l e (rmk 0 0) s m [.ref (a 4), .ref (a 1)].toArray below meth c H locs 0 0 (MQ below (Qct E A (wX4 E a m0') none) [.ref (a 4), .ref (a 1)].toArray s 0 0 A) (F0 m 2 ls []) := by
    intro k_1
    induction k_1 with
    | zero =>
      intro v2_1 m0_1 hf
      rw [lp_X4_copies_kept_d_2] at hf
      cases hf
    | succ k_1 ih_1 =>
      intro v2_1 m0_1 hf H locs ls hP hD hS hl
      rw [lp_X4_copies_kept_d_2] at hf
      refine lv_iload_n hx hb dX4_copies_2 rfl (lv_at hl 0 rfl) ?_
      refine lv_bipush (v := (67 : Int32)) hx hb dX4_copies_3 (by decide) ?_
      refine lv_icmp_ge (tgt := 20) hx hb dX4_copies_5 (by decide) (fun c2 => ?_) (fun c2 => ?_)
      · have hf := ip c2 hf
        obtain rfl := so1 hf
        exact rt_v hx hb hr hlocks hP hD hS dX4_copies_20
      · have hf := im c2 hf
        refine lv_aload_n hx hb dX4_copies_8 rfl (lv_at hl 2 rfl) ?_
        refine lv_iload_n hx hb dX4_copies_9 rfl (lv_at hl 0 rfl) ?_
        refine lv_aload_n hx hb dX4_copies_10 rfl (lv_at hl 1 rfl) ?_
        refine lv_iload_n hx hb dX4_copies_11 rfl (lv_at hl 0 rfl) ?_
        obtain ⟨hg3, hf⟩ := gd_some hf
        refine va_iald hx hb hE.2.1 hP 4 0 rfl rfl hg3 dX4_copies_12 ?_
        obtain ⟨hg4, hf⟩ := gd_some hf
        obtain ⟨m_5, em_5, hf⟩ := jn1_some hf
        refine va_iast hx hb hE.2.1 hP hD hS 1 0 rfl rfl hg4 dX4_copies_13 (fun H locs hP hD hS => ?_)
        have hP : va_P E.1 vwCl (wX4 E a m_5) H := wst (by rw [em_5]; exact rfl) hP
        have hD : va_D A (wX4 E a m_5) := wsd (by rw [em_5]; exact rfl) hD
        refine lv_iinc (v := (v2_1 + (1 : Int32))) (lv' := [(2, .int (v2_1 + (1 : Int32))), (0, .ref (a 4)), (1, .ref (a 1))]) hx hb dX4_copies_14 hl (k := 0) rfl rfl (by decide) rfl (fun ls hl => ?_)
        refine lv_goto (tgt := 2) hx hb dX4_copies_17 (by decide) ?_
        exact ih_1 _ _ hf _ _ _ hP hD hS (lv_sub hl [0, 1, 2] rfl)
  exact L_1 _ _ _ hf _ _ _ hP hD hS (lv_sub hl [0, 1, 2] rfl)
def f_X4_isPerson (m0 : MS) (p1 : Int32) : Option (Bool) := gd (0 : Int32) 67 (bd1 (f_X4_in (p1.toInt64) (0 : Int64) ((((g4_d m0) (0 : Int32).toNatClampNeg) - (1 : Int32)).toInt64)) (fun r3 => some (r3)))
set_option maxHeartbeats 4000000 in
set_option maxRecDepth 100000 in
theorem c_X4_isPerson (l : Launch) (E : EV) (a : Nat → Nat) (m0 : MS) (p1 : Int32)  (r : Bool) (hf : f_X4_isPerson m0 p1 = some r) : Ct l E yX4_isPerson cX4_isPerson 2 ((Option.some FieldType.boolean)) (rmk 1 25) [.ref (a 0), .int p1] (wX4 E a m0) (wX4 E a m0) (some (.int (bI r))) := by
  refine Ct.of (by decide) (Nat.le_of_ble_eq_true rfl) ?_
  intro p e s m below meth c A ls hC hP hD hl
  obtain ⟨hx, hb, hr, hml, hown, hlocks, hE, hA⟩ := hC
  have hts : ∀ w ∈ tbl, w.before [.ref (a 0), .int p1].toArray s = true := fun w hw => hE.w hw
  have hS : va_S A s.heap s.heap [] := va_S.rf
  have hl : lv_has ls 2 [(0, .ref (a 0)), (1, .int p1)] := hl
  unfold f_X4_isPerson at hf
  refine lv_iload_n hx hb dX4_isPerson_0 rfl (lv_at hl 1 rfl) ?_
  refine lv_i2l (v := (p1.toInt64)) hx hb dX4_isPerson_1 rfl ?_
  refine lv_lconst (v := (0 : Int64)) hx hb dX4_isPerson_2 (by decide) ?_
  refine lv_aload_n hx hb dX4_isPerson_3 rfl (lv_at hl 0 rfl) ?_
  refine va_get (D := E.1) (ci := 4) (v := .ref (a 1)) (C := RX4) (T := TX4) (N := 18) hx hb hts inX4 hown hE.2.1 hP 0 rfl rfl 0 (by decide) (hE.w tw_598) (fun _ h9 => h9) rfl dX4_isPerson_4 ?_
  refine lv_iconst (v := (0 : Int32)) hx hb dX4_isPerson_7 (by decide) ?_
  obtain ⟨hg1, hf⟩ := gd_some hf
  refine va_iald hx hb hE.2.1 hP 1 0 rfl rfl hg1 dX4_isPerson_8 ?_
  refine lv_iconst (v := (1 : Int32)) hx hb dX4_isPerson_9 (by decide) ?_
  refine lv_isub hx hb dX4_isPerson_10 ?_
  refine lv_i2l (v := ((((g4_d m0) (0 : Int32).toNatClampNeg) - (1 : Int32)).toInt64)) hx hb dX4_isPerson_11 rfl ?_
  obtain ⟨r3, hc2, hf⟩ := bd1_some hf
  refine cS (X := List.take 0 (wX4 E a m0)) (Y := List.drop 0 (wX4 E a m0)) (w := (wX4 E a m0)) (w' := (wX4 E a m0)) lk_X4_46 hx hb hml hown hE hA (c_X4_in l E (p1.toInt64) (0 : Int64) ((((g4_d m0) (0 : Int32).toNatClampNeg) - (1 : Int32)).toInt64) r3 hc2) rfl rfl hP hD hS ⟨rfl, rfl, Nat.le_of_ble_eq_true rfl, Nat.le_of_ble_eq_true rfl⟩ hl.1 (As := [.long (p1.toInt64), .long (0 : Int64), .long ((((g4_d m0) (0 : Int32).toNatClampNeg) - (1 : Int32)).toInt64)]) (rest := []) rfl rfl (Nat.le_of_ble_eq_true rfl) ⟨Nat.zero_le _, Nat.zero_le _⟩ dX4_isPerson_12 (fun H locs hP hD hS => ?_)
  refine W.eq (g2 := F0 m 15 ls [.int (bI r3)]) rfl ?_
  obtain rfl := so1 hf
  exact rt_z (bI_nar _) hx hb hr hlocks hP hD hS dX4_isPerson_15
def f_X4_its (m0 : MS) (p1 : Int32) (p2 : Int32) : Option (Int32) := gd (((35 : Int32) + ((4 : Int32) * p1)) + p2) 67 (some (((g4_d m0) (((35 : Int32) + ((4 : Int32) * p1)) + p2).toNatClampNeg)))
set_option maxHeartbeats 4000000 in
set_option maxRecDepth 100000 in
theorem c_X4_its (l : Launch) (E : EV) (a : Nat → Nat) (m0 : MS) (p1 : Int32) (p2 : Int32)  (r : Int32) (hf : f_X4_its m0 p1 p2 = some r) : Ct l E yX4_its cX4_its 3 ((Option.some FieldType.int)) (rmk 0 0) [.ref (a 0), .int p1, .int p2] (wX4 E a m0) (wX4 E a m0) (some (.int r)) := by
  refine Ct.of (by decide) (Nat.le_of_ble_eq_true rfl) ?_
  intro p e s m below meth c A ls hC hP hD hl
  obtain ⟨hx, hb, hr, hml, hown, hlocks, hE, hA⟩ := hC
  have hts : ∀ w ∈ tbl, w.before [.ref (a 0), .int p1, .int p2].toArray s = true := fun w hw => hE.w hw
  have hS : va_S A s.heap s.heap [] := va_S.rf
  have hl : lv_has ls 3 [(0, .ref (a 0)), (1, .int p1), (2, .int p2)] := hl
  unfold f_X4_its at hf
  refine lv_aload_n hx hb dX4_its_0 rfl (lv_at hl 0 rfl) ?_
  refine va_get (D := E.1) (ci := 4) (v := .ref (a 1)) (C := RX4) (T := TX4) (N := 18) hx hb hts inX4 hown hE.2.1 hP 0 rfl rfl 0 (by decide) (hE.w tw_598) (fun _ h9 => h9) rfl dX4_its_1 ?_
  refine lv_bipush (v := (35 : Int32)) hx hb dX4_its_4 (by decide) ?_
  refine lv_iconst (v := (4 : Int32)) hx hb dX4_its_6 (by decide) ?_
  refine lv_iload_n hx hb dX4_its_7 rfl (lv_at hl 1 rfl) ?_
  refine lv_imul hx hb dX4_its_8 ?_
  refine lv_iadd hx hb dX4_its_9 ?_
  refine lv_iload_n hx hb dX4_its_10 rfl (lv_at hl 2 rfl) ?_
  refine lv_iadd hx hb dX4_its_11 ?_
  obtain ⟨hg1, hf⟩ := gd_some hf
  refine va_iald hx hb hE.2.1 hP 1 0 rfl rfl hg1 dX4_its_12 ?_
  obtain rfl := so1 hf
  exact rt_i hx hb hr hlocks hP hD hS dX4_its_13
def f_X4_sets (m0 : MS) (p1 : Int32) (p2 : Int32) (p3 : Int32) : Option (MS) := gd (((35 : Int32) + ((4 : Int32) * p1)) + p2) 67 (jn1 (s4_d m0 (upd (g4_d m0) (((35 : Int32) + ((4 : Int32) * p1)) + p2).toNatClampNeg p3)) (fun m_2 => some (m_2)))
set_option maxHeartbeats 4000000 in
set_option maxRecDepth 100000 in
theorem c_X4_sets (l : Launch) (E : EV) (a : Nat → Nat) (m0 : MS) (p1 : Int32) (p2 : Int32) (p3 : Int32)  (m0' : MS) (hf : f_X4_sets m0 p1 p2 p3 = some m0') : Ct l E yX4_sets cX4_sets 4 (none) (rmk 0 0) [.ref (a 0), .int p1, .int p2, .int p3] (wX4 E a m0) (wX4 E a m0') none := by
  refine Ct.of (by decide) (Nat.le_of_ble_eq_true rfl) ?_
  intro p e s m below meth c A ls hC hP hD hl
  obtain ⟨hx, hb, hr, hml, hown, hlocks, hE, hA⟩ := hC
  have hts : ∀ w ∈ tbl, w.before [.ref (a 0), .int p1, .int p2, .int p3].toArray s = true := fun w hw => hE.w hw
  have hS : va_S A s.heap s.heap [] := va_S.rf
  have hl : lv_has ls 4 [(0, .ref (a 0)), (1, .int p1), (2, .int p2), (3, .int p3)] := hl
  unfold f_X4_sets at hf
  refine lv_aload_n hx hb dX4_sets_0 rfl (lv_at hl 0 rfl) ?_
  refine va_get (D := E.1) (ci := 4) (v := .ref (a 1)) (C := RX4) (T := TX4) (N := 18) hx hb hts inX4 hown hE.2.1 hP 0 rfl rfl 0 (by decide) (hE.w tw_598) (fun _ h9 => h9) rfl dX4_sets_1 ?_
  refine lv_bipush (v := (35 : Int32)) hx hb dX4_sets_4 (by decide) ?_
  refine lv_iconst (v := (4 : Int32)) hx hb dX4_sets_6 (by decide) ?_
  refine lv_iload_n hx hb dX4_sets_7 rfl (lv_at hl 1 rfl) ?_
  refine lv_imul hx hb dX4_sets_8 ?_
  refine lv_iadd hx hb dX4_sets_9 ?_
  refine lv_iload_n hx hb dX4_sets_10 rfl (lv_at hl 2 rfl) ?_
  refine lv_iadd hx hb dX4_sets_11 ?_
  refine lv_iload_n hx hb dX4_sets_12 rfl (lv_at hl 3 rfl) ?_
  obtain ⟨hg1, hf⟩ := gd_some hf
  obtain ⟨m_2, em_2, hf⟩ := jn1_some hf
  refine va_iast hx hb hE.2.1 hP hD hS 1 0 rfl rfl hg1 dX4_sets_13 (fun H locs hP hD hS => ?_)
  have hP : va_P E.1 vwCl (wX4 E a m_2) H := wst (by rw [em_2]; exact rfl) hP
  have hD : va_D A (wX4 E a m_2) := wsd (by rw [em_2]; exact rfl) hD
  obtain rfl := so1 hf
  exact rt_v hx hb hr hlocks hP hD hS dX4_sets_14
def f_X4_becomes (m0 : MS) (p1 : Int32) (p2 : Int32) : Option (Int32 × MS) := gd p1 67 (gd p1 67 (jn1 (s4_d m0 (upd (g4_d m0) p1.toNatClampNeg p2)) (fun m_3 => some (((g4_d m0) p1.toNatClampNeg), m_3))))
set_option maxHeartbeats 4000000 in
set_option maxRecDepth 100000 in
theorem c_X4_becomes (l : Launch) (E : EV) (a : Nat → Nat) (m0 : MS) (p1 : Int32) (p2 : Int32)  (r : Int32) (m0' : MS) (hf : f_X4_becomes m0 p1 p2 = some (r, m0')) : Ct l E yX4_becomes cX4_becomes 4 ((Option.some FieldType.int)) (rmk 0 0) [.ref (a 0), .int p1, .int p2] (wX4 E a m0) (wX4 E a m0') (some (.int r)) := by
  refine Ct.of (by decide) (Nat.le_of_ble_eq_true rfl) ?_
  intro p e s m below meth c A ls hC hP hD hl
  obtain ⟨hx, hb, hr, hml, hown, hlocks, hE, hA⟩ := hC
  have hts : ∀ w ∈ tbl, w.before [.ref (a 0), .int p1, .int p2].toArray s = true := fun w hw => hE.w hw
  have hS : va_S A s.heap s.heap [] := va_S.rf
  have hl : lv_has ls 4 [(0, .ref (a 0)), (1, .int p1), (2, .int p2)] := hl
  unfold f_X4_becomes at hf
  refine lv_aload_n hx hb dX4_becomes_0 rfl (lv_at hl 0 rfl) ?_
  refine va_get (D := E.1) (ci := 4) (v := .ref (a 1)) (C := RX4) (T := TX4) (N := 18) hx hb hts inX4 hown hE.2.1 hP 0 rfl rfl 0 (by decide) (hE.w tw_598) (fun _ h9 => h9) rfl dX4_becomes_1 ?_
  refine lv_iload_n hx hb dX4_becomes_4 rfl (lv_at hl 1 rfl) ?_
  obtain ⟨hg1, hf⟩ := gd_some hf
  refine va_iald hx hb hE.2.1 hP 1 0 rfl rfl hg1 dX4_becomes_5 ?_
  refine lv_istore_n (lv' := [(3, .int ((g4_d m0) p1.toNatClampNeg)), (0, .ref (a 0)), (1, .int p1), (2, .int p2)]) hx hb dX4_becomes_6 rfl hl (by decide) rfl (fun ls hl => ?_)
  refine lv_aload_n hx hb dX4_becomes_7 rfl (lv_at hl 1 rfl) ?_
  refine va_get (D := E.1) (ci := 4) (v := .ref (a 1)) (C := RX4) (T := TX4) (N := 18) hx hb hts inX4 hown hE.2.1 hP 0 rfl rfl 0 (by decide) (hE.w tw_598) (fun _ h9 => h9) rfl dX4_becomes_8 ?_
  refine lv_iload_n hx hb dX4_becomes_11 rfl (lv_at hl 2 rfl) ?_
  refine lv_iload_n hx hb dX4_becomes_12 rfl (lv_at hl 3 rfl) ?_
  obtain ⟨hg2, hf⟩ := gd_some hf
  obtain ⟨m_3, em_3, hf⟩ := jn1_some hf
  refine va_iast hx hb hE.2.1 hP hD hS 1 0 rfl rfl hg2 dX4_becomes_13 (fun H locs hP hD hS => ?_)
  have hP : va_P E.1 vwCl (wX4 E a m_3) H := wst (by rw [em_3]; exact rfl) hP
  have hD : va_D A (wX4 E a m_3) := wsd (by rw [em_3]; exact rfl) hD
  refine lv_iload_n hx hb dX4_becomes_14 rfl (lv_at hl 0 rfl) ?_
  obtain ⟨rfl, rfl⟩ := so2 hf
  exact rt_i hx hb hr hlocks hP hD hS dX4_becomes_15
def f_X4_isBeside (m0 : MS) (p1 : Int32) (p2 : Int32) : Option (Bool) := bd1 (f_X4_isPerson m0 (p1 - (1 : Int32))) (fun r2 => if (bI r2) = 0 then bd1 (f_X4_isPerson m0 (p1 + (1 : Int32))) (fun r5 => if (bI r5) = 0 then some (false) else bd1 (f_X4_its m0 (p1 + (1 : Int32)) (3 : Int32)) (fun r8 => if r8 = p2 then some (true) else some (false))) else bd1 (f_X4_its m0 (p1 - (1 : Int32)) (3 : Int32)) (fun r11 => if r11 = p2 then some (true) else bd1 (f_X4_isPerson m0 (p1 + (1 : Int32))) (fun r14 => if (bI r14) = 0 then some (false) else bd1 (f_X4_its m0 (p1 + (1 : Int32)) (3 : Int32)) (fun r17 => if r17 = p2 then some (true) else some (false)))))
set_option maxHeartbeats 4000000 in
set_option maxRecDepth 100000 in
theorem c_X4_isBeside (l : Launch) (E : EV) (a : Nat → Nat) (m0 : MS) (p1 : Int32) (p2 : Int32)  (r : Bool) (hf : f_X4_isBeside m0 p1 p2 = some r) : Ct l E yX4_isBeside cX4_isBeside 3 ((Option.some FieldType.boolean)) (rmk 2 46) [.ref (a 0), .int p1, .int p2] (wX4 E a m0) (wX4 E a m0) (some (.int (bI r))) := by
  refine Ct.of (by decide) (Nat.le_of_ble_eq_true rfl) ?_
  intro p e s m below meth c A ls hC hP hD hl
  obtain ⟨hx, hb, hr, hml, hown, hlocks, hE, hA⟩ := hC
  have hts : ∀ w ∈ tbl, w.before [.ref (a 0), .int p1, .int p2].toArray s = true := fun w hw => hE.w hw
  have hS : va_S A s.heap s.heap [] := va_S.rf
  have hl : lv_has ls 3 [(0, .ref (a 0)), (1, .int p1), (2, .int p2)] := hl
  unfold f_X4_isBeside at hf
  refine lv_aload_n hx hb dX4_isBeside_0 rfl (lv_at hl 0 rfl) ?_
  refine lv_iload_n hx hb dX4_isBeside_1 rfl (lv_at hl 1 rfl) ?_
  refine lv_iconst (v := (1 : Int32)) hx hb dX4_isBeside_2 (by decide) ?_
  refine lv_isub hx hb dX4_isBeside_3 ?_
  obtain ⟨r2, hc1, hf⟩ := bd1_some hf
  refine cV (X := List.take 0 (wX4 E a m0)) (Y := List.drop 12 (wX4 E a m0)) (w := (wX4 E a m0)) (w' := (wX4 E a m0)) (q0 := 0) lk_X4_50 hx hb hml hown hE hA (c_X4_isPerson l E a m0 (p1 - (1 : Int32)) r2 hc1) rfl rfl hP hD hS rfl rfl ⟨rfl, rfl, Nat.le_of_ble_eq_true rfl, Nat.le_of_ble_eq_true rfl⟩ hl.1 (As := [.int (p1 - (1 : Int32))]) (rest := []) rfl rfl (Nat.le_of_ble_eq_true rfl) ⟨Nat.zero_le _, Nat.zero_le _⟩ dX4_isBeside_4 (fun H locs hP hD hS => ?_)
  refine W.eq (g2 := F0 m 7 ls [.int (bI r2)]) rfl ?_
  refine lv_if_eq (tgt := 22) hx hb dX4_isBeside_7 (by decide) (fun c3 => ?_) (fun c3 => ?_)
  · have hf := ip c3 hf
    refine lv_aload_n hx hb dX4_isBeside_22 rfl (lv_at hl 0 rfl) ?_
    refine lv_iload_n hx hb dX4_isBeside_23 rfl (lv_at hl 1 rfl) ?_
    refine lv_iconst (v := (1 : Int32)) hx hb dX4_isBeside_24 (by decide) ?_
    refine lv_iadd hx hb dX4_isBeside_25 ?_
    obtain ⟨r5, hc4, hf⟩ := bd1_some hf
    refine cV (X := List.take 0 (wX4 E a m0)) (Y := List.drop 12 (wX4 E a m0)) (w := (wX4 E a m0)) (w' := (wX4 E a m0)) (q0 := 0) lk_X4_50 hx hb hml hown hE hA (c_X4_isPerson l E a m0 (p1 + (1 : Int32)) r5 hc4) rfl rfl hP hD hS rfl rfl ⟨rfl, rfl, Nat.le_of_ble_eq_true rfl, Nat.le_of_ble_eq_true rfl⟩ hl.1 (As := [.int (p1 + (1 : Int32))]) (rest := []) rfl rfl (Nat.le_of_ble_eq_true rfl) ⟨Nat.zero_le _, Nat.zero_le _⟩ dX4_isBeside_26 (fun H locs hP hD hS => ?_)
    refine W.eq (g2 := F0 m 29 ls [.int (bI r5)]) rfl ?_
    refine lv_if_eq (tgt := 48) hx hb dX4_isBeside_29 (by decide) (fun c6 => ?_) (fun c6 => ?_)
    · have hf := ip c6 hf
      refine lv_iconst (v := (0 : Int32)) hx hb dX4_isBeside_48 (by decide) ?_
      obtain rfl := so1 hf
      exact rt_z (bI_nar _) hx hb hr hlocks hP hD hS dX4_isBeside_49
    · have hf := im c6 hf
      refine lv_aload_n hx hb dX4_isBeside_32 rfl (lv_at hl 0 rfl) ?_
      refine lv_iload_n hx hb dX4_isBeside_33 rfl (lv_at hl 1 rfl) ?_
      refine lv_iconst (v := (1 : Int32)) hx hb dX4_isBeside_34 (by decide) ?_
      refine lv_iadd hx hb dX4_isBeside_35 ?_
      refine lv_iconst (v := (3 : Int32)) hx hb dX4_isBeside_36 (by decide) ?_
      obtain ⟨r8, hc7, hf⟩ := bd1_some hf
      refine cV (X := List.take 0 (wX4 E a m0)) (Y := List.drop 12 (wX4 E a m0)) (w := (wX4 E a m0)) (w' := (wX4 E a m0)) (q0 := 0) lk_X4_54 hx hb hml hown hE hA (c_X4_its l E a m0 (p1 + (1 : Int32)) (3 : Int32) r8 hc7) rfl rfl hP hD hS rfl rfl ⟨rfl, rfl, Nat.le_of_ble_eq_true rfl, Nat.le_of_ble_eq_true rfl⟩ hl.1 (As := [.int (p1 + (1 : Int32)), .int (3 : Int32)]) (rest := []) rfl rfl (Nat.le_of_ble_eq_true rfl) ⟨Nat.zero_le _, Nat.zero_le _⟩ dX4_isBeside_37 (fun H locs hP hD hS => ?_)
      refine W.eq (g2 := F0 m 40 ls [.int r8]) rfl ?_
      refine lv_iload_n hx hb dX4_isBeside_40 rfl (lv_at hl 2 rfl) ?_
      refine lv_icmp_ne (tgt := 48) hx hb dX4_isBeside_41 (by decide) (fun c9 => ?_) (fun c9 => ?_)
      · have hf := im c9 hf
        refine lv_iconst (v := (0 : Int32)) hx hb dX4_isBeside_48 (by decide) ?_
        obtain rfl := so1 hf
        exact rt_z (bI_nar _) hx hb hr hlocks hP hD hS dX4_isBeside_49
      · have hf := ip c9 hf
        refine lv_iconst (v := (1 : Int32)) hx hb dX4_isBeside_44 (by decide) ?_
        refine lv_goto (tgt := 49) hx hb dX4_isBeside_45 (by decide) ?_
        obtain rfl := so1 hf
        exact rt_z (bI_nar _) hx hb hr hlocks hP hD hS dX4_isBeside_49
  · have hf := im c3 hf
    refine lv_aload_n hx hb dX4_isBeside_10 rfl (lv_at hl 0 rfl) ?_
    refine lv_iload_n hx hb dX4_isBeside_11 rfl (lv_at hl 1 rfl) ?_
    refine lv_iconst (v := (1 : Int32)) hx hb dX4_isBeside_12 (by decide) ?_
    refine lv_isub hx hb dX4_isBeside_13 ?_
    refine lv_iconst (v := (3 : Int32)) hx hb dX4_isBeside_14 (by decide) ?_
    obtain ⟨r11, hc10, hf⟩ := bd1_some hf
    refine cV (X := List.take 0 (wX4 E a m0)) (Y := List.drop 12 (wX4 E a m0)) (w := (wX4 E a m0)) (w' := (wX4 E a m0)) (q0 := 0) lk_X4_54 hx hb hml hown hE hA (c_X4_its l E a m0 (p1 - (1 : Int32)) (3 : Int32) r11 hc10) rfl rfl hP hD hS rfl rfl ⟨rfl, rfl, Nat.le_of_ble_eq_true rfl, Nat.le_of_ble_eq_true rfl⟩ hl.1 (As := [.int (p1 - (1 : Int32)), .int (3 : Int32)]) (rest := []) rfl rfl (Nat.le_of_ble_eq_true rfl) ⟨Nat.zero_le _, Nat.zero_le _⟩ dX4_isBeside_15 (fun H locs hP hD hS => ?_)
    refine W.eq (g2 := F0 m 18 ls [.int r11]) rfl ?_
    refine lv_iload_n hx hb dX4_isBeside_18 rfl (lv_at hl 2 rfl) ?_
    refine lv_icmp_eq (tgt := 44) hx hb dX4_isBeside_19 (by decide) (fun c12 => ?_) (fun c12 => ?_)
    · have hf := ip c12 hf
      refine lv_iconst (v := (1 : Int32)) hx hb dX4_isBeside_44 (by decide) ?_
      refine lv_goto (tgt := 49) hx hb dX4_isBeside_45 (by decide) ?_
      obtain rfl := so1 hf
      exact rt_z (bI_nar _) hx hb hr hlocks hP hD hS dX4_isBeside_49
    · have hf := im c12 hf
      refine lv_aload_n hx hb dX4_isBeside_22 rfl (lv_at hl 0 rfl) ?_
      refine lv_iload_n hx hb dX4_isBeside_23 rfl (lv_at hl 1 rfl) ?_
      refine lv_iconst (v := (1 : Int32)) hx hb dX4_isBeside_24 (by decide) ?_
      refine lv_iadd hx hb dX4_isBeside_25 ?_
      obtain ⟨r14, hc13, hf⟩ := bd1_some hf
      refine cV (X := List.take 0 (wX4 E a m0)) (Y := List.drop 12 (wX4 E a m0)) (w := (wX4 E a m0)) (w' := (wX4 E a m0)) (q0 := 0) lk_X4_50 hx hb hml hown hE hA (c_X4_isPerson l E a m0 (p1 + (1 : Int32)) r14 hc13) rfl rfl hP hD hS rfl rfl ⟨rfl, rfl, Nat.le_of_ble_eq_true rfl, Nat.le_of_ble_eq_true rfl⟩ hl.1 (As := [.int (p1 + (1 : Int32))]) (rest := []) rfl rfl (Nat.le_of_ble_eq_true rfl) ⟨Nat.zero_le _, Nat.zero_le _⟩ dX4_isBeside_26 (fun H locs hP hD hS => ?_)
      refine W.eq (g2 := F0 m 29 ls [.int (bI r14)]) rfl ?_
      refine lv_if_eq (tgt := 48) hx hb dX4_isBeside_29 (by decide) (fun c15 => ?_) (fun c15 => ?_)
      · have hf := ip c15 hf
        refine lv_iconst (v := (0 : Int32)) hx hb dX4_isBeside_48 (by decide) ?_
        obtain rfl := so1 hf
        exact rt_z (bI_nar _) hx hb hr hlocks hP hD hS dX4_isBeside_49
      · have hf := im c15 hf
        refine lv_aload_n hx hb dX4_isBeside_32 rfl (lv_at hl 0 rfl) ?_
        refine lv_iload_n hx hb dX4_isBeside_33 rfl (lv_at hl 1 rfl) ?_
        refine lv_iconst (v := (1 : Int32)) hx hb dX4_isBeside_34 (by decide) ?_
        refine lv_iadd hx hb dX4_isBeside_35 ?_
        refine lv_iconst (v := (3 : Int32)) hx hb dX4_isBeside_36 (by decide) ?_
        obtain ⟨r17, hc16, hf⟩ := bd1_some hf
        refine cV (X := List.take 0 (wX4 E a m0)) (Y := List.drop 12 (wX4 E a m0)) (w := (wX4 E a m0)) (w' := (wX4 E a m0)) (q0 := 0) lk_X4_54 hx hb hml hown hE hA (c_X4_its l E a m0 (p1 + (1 : Int32)) (3 : Int32) r17 hc16) rfl rfl hP hD hS rfl rfl ⟨rfl, rfl, Nat.le_of_ble_eq_true rfl, Nat.le_of_ble_eq_true rfl⟩ hl.1 (As := [.int (p1 + (1 : Int32)), .int (3 : Int32)]) (rest := []) rfl rfl (Nat.le_of_ble_eq_true rfl) ⟨Nat.zero_le _, Nat.zero_le _⟩ dX4_isBeside_37 (fun H locs hP hD hS => ?_)
        refine W.eq (g2 := F0 m 40 ls [.int r17]) rfl ?_
        refine lv_iload_n hx hb dX4_isBeside_40 rfl (lv_at hl 2 rfl) ?_
        refine lv_icmp_ne (tgt := 48) hx hb dX4_isBeside_41 (by decide) (fun c18 => ?_) (fun c18 => ?_)
        · have hf := im c18 hf
          refine lv_iconst (v := (0 : Int32)) hx hb dX4_isBeside_48 (by decide) ?_
          obtain rfl := so1 hf
          exact rt_z (bI_nar _) hx hb hr hlocks hP hD hS dX4_isBeside_49
        · have hf := ip c18 hf
          refine lv_iconst (v := (1 : Int32)) hx hb dX4_isBeside_44 (by decide) ?_
          refine lv_goto (tgt := 49) hx hb dX4_isBeside_45 (by decide) ?_
          obtain rfl := so1 hf
          exact rt_z (bI_nar _) hx hb hr hlocks hP hD hS dX4_isBeside_49
def f_X4_doesNow (m0 : MS) (p1 : Int32) : Option (Int32) := gd (2 : Int32) 67 (gd ((3 : Int32) + ((g4_d m0) (2 : Int32).toNatClampNeg)) 67 (bd1 (f_X4_its m0 p1 (1 : Int32)) (fun r4 => gd (2 : Int32) 67 (gd ((19 : Int32) + ((g4_d m0) (2 : Int32).toNatClampNeg)) 67 (jn1 (if r4 < ((g4_d m0) ((19 : Int32) + ((g4_d m0) (2 : Int32).toNatClampNeg)).toNatClampNeg) then ((0 : Int32)) else (((g4_d m0) ((3 : Int32) + ((g4_d m0) (2 : Int32).toNatClampNeg)).toNatClampNeg))) (fun x8 => bd1 (f_X4_isBeside m0 p1 (3 : Int32)) (fun r12 => jn1 (if (bI r12) = 0 then (x8) else ((3 : Int32))) (fun x14 => bd1 (f_X4_its m0 p1 (1 : Int32)) (fun r18 => jn1 (if r18 < (40 : Int32) then (x8) else if ((g4_d m0) ((3 : Int32) + ((g4_d m0) (2 : Int32).toNatClampNeg)).toNatClampNeg) = (2 : Int32) then (x8) else ((1 : Int32))) (fun x20 => bd1 (f_X4_its m0 p1 (0 : Int32)) (fun r25 => if r25 = (1 : Int32) then some (x14) else if r25 = (2 : Int32) then some (x20) else if r25 = (3 : Int32) then some ((0 : Int32)) else if r25 = (4 : Int32) then if ((g4_d m0) ((3 : Int32) + ((g4_d m0) (2 : Int32).toNatClampNeg)).toNatClampNeg) = (4 : Int32) then some ((4 : Int32)) else gd (2 : Int32) 67 (if (((g4_d m0) (2 : Int32).toNatClampNeg) - (((g4_d m0) (2 : Int32).toNatClampNeg) / (8 : Int32)) * (8 : Int32)) = (7 : Int32) then some ((4 : Int32)) else some (x14)) else if r25 = (5 : Int32) then bd1 (f_X4_isBeside m0 p1 (1 : Int32)) (fun r35 => if (bI r35) = 0 then some (x20) else some ((1 : Int32))) else some (x8))))))))))))
set_option maxHeartbeats 4000000 in
set_option maxRecDepth 100000 in
theorem c_X4_doesNow (l : Launch) (E : EV) (a : Nat → Nat) (m0 : MS) (p1 : Int32)  (r : Int32) (hf : f_X4_doesNow m0 p1 = some r) : Ct l E yX4_doesNow cX4_doesNow 6 ((Option.some FieldType.int)) (rmk 3 68) [.ref (a 0), .int p1] (wX4 E a m0) (wX4 E a m0) (some (.int r)) := by
  refine Ct.of (by decide) (Nat.le_of_ble_eq_true rfl) ?_
  intro p e s m below meth c A ls hC hP hD hl
  obtain ⟨hx, hb, hr, hml, hown, hlocks, hE, hA⟩ := hC
  have hts : ∀ w ∈ tbl, w.before [.ref (a 0), .int p1].toArray s = true := fun w hw => hE.w hw
  have hS : va_S A s.heap s.heap [] := va_S.rf
  have hl : lv_has ls 6 [(0, .ref (a 0)), (1, .int p1)] := hl
  unfold f_X4_doesNow at hf
  refine lv_aload_n hx hb dX4_doesNow_0 rfl (lv_at hl 0 rfl) ?_
  refine va_get (D := E.1) (ci := 4) (v := .ref (a 1)) (C := RX4) (T := TX4) (N := 18) hx hb hts inX4 hown hE.2.1 hP 0 rfl rfl 0 (by decide) (hE.w tw_598) (fun _ h9 => h9) rfl dX4_doesNow_1 ?_
  refine lv_iconst (v := (3 : Int32)) hx hb dX4_doesNow_4 (by decide) ?_
  refine lv_aload_n hx hb dX4_doesNow_5 rfl (lv_at hl 0 rfl) ?_
  refine va_get (D := E.1) (ci := 4) (v := .ref (a 1)) (C := RX4) (T := TX4) (N := 18) hx hb hts inX4 hown hE.2.1 hP 0 rfl rfl 0 (by decide) (hE.w tw_598) (fun _ h9 => h9) rfl dX4_doesNow_6 ?_
  refine lv_iconst (v := (2 : Int32)) hx hb dX4_doesNow_9 (by decide) ?_
  obtain ⟨hg1, hf⟩ := gd_some hf
  refine va_iald hx hb hE.2.1 hP 1 0 rfl rfl hg1 dX4_doesNow_10 ?_
  refine lv_iadd hx hb dX4_doesNow_11 ?_
  obtain ⟨hg2, hf⟩ := gd_some hf
  refine va_iald hx hb hE.2.1 hP 1 0 rfl rfl hg2 dX4_doesNow_12 ?_
  refine lv_istore_n (lv' := [(2, .int ((g4_d m0) ((3 : Int32) + ((g4_d m0) (2 : Int32).toNatClampNeg)).toNatClampNeg)), (0, .ref (a 0)), (1, .int p1)]) hx hb dX4_doesNow_13 rfl hl (by decide) rfl (fun ls hl => ?_)
  refine lv_aload_n hx hb dX4_doesNow_14 rfl (lv_at hl 1 rfl) ?_
  refine lv_iload_n hx hb dX4_doesNow_15 rfl (lv_at hl 2 rfl) ?_
  refine lv_iconst (v := (1 : Int32)) hx hb dX4_doesNow_16 (by decide) ?_
  obtain ⟨r4, hc3, hf⟩ := bd1_some hf
  refine cV (X := List.take 0 (wX4 E a m0)) (Y := List.drop 12 (wX4 E a m0)) (w := (wX4 E a m0)) (w' := (wX4 E a m0)) (q0 := 0) lk_X4_54 hx hb hml hown hE hA (c_X4_its l E a m0 p1 (1 : Int32) r4 hc3) rfl rfl hP hD hS rfl rfl ⟨rfl, rfl, Nat.le_of_ble_eq_true rfl, Nat.le_of_ble_eq_true rfl⟩ hl.1 (As := [.int p1, .int (1 : Int32)]) (rest := []) rfl rfl (Nat.le_of_ble_eq_true rfl) ⟨Nat.zero_le _, Nat.zero_le _⟩ dX4_doesNow_17 (fun H locs hP hD hS => ?_)
  refine W.eq (g2 := F0 m 20 ls [.int r4]) rfl ?_
  refine lv_aload_n hx hb dX4_doesNow_20 rfl (lv_at hl 1 rfl) ?_
  refine va_get (D := E.1) (ci := 4) (v := .ref (a 1)) (C := RX4) (T := TX4) (N := 18) hx hb hts inX4 hown hE.2.1 hP 0 rfl rfl 0 (by decide) (hE.w tw_598) (fun _ h9 => h9) rfl dX4_doesNow_21 ?_
  refine lv_bipush (v := (19 : Int32)) hx hb dX4_doesNow_24 (by decide) ?_
  refine lv_aload_n hx hb dX4_doesNow_26 rfl (lv_at hl 1 rfl) ?_
  refine va_get (D := E.1) (ci := 4) (v := .ref (a 1)) (C := RX4) (T := TX4) (N := 18) hx hb hts inX4 hown hE.2.1 hP 0 rfl rfl 0 (by decide) (hE.w tw_598) (fun _ h9 => h9) rfl dX4_doesNow_27 ?_
  refine lv_iconst (v := (2 : Int32)) hx hb dX4_doesNow_30 (by decide) ?_
  obtain ⟨hg5, hf⟩ := gd_some hf
  refine va_iald hx hb hE.2.1 hP 1 0 rfl rfl hg5 dX4_doesNow_31 ?_
  refine lv_iadd hx hb dX4_doesNow_32 ?_
  obtain ⟨hg6, hf⟩ := gd_some hf
  refine va_iald hx hb hE.2.1 hP 1 0 rfl rfl hg6 dX4_doesNow_33 ?_
  obtain ⟨x8, hq10, hf⟩ := jn1_some hf
  have J9 : ∀ (H : Heap) (locs : List Loc) (ls : Array Slot), va_P E.1 vwCl (wX4 E a m0) H → va_D A (wX4 E a m0) → va_S A s.heap H locs → lv_has ls 6 [(2, .int ((g4_d m0) ((3 : Int32) + ((g4_d m0) (2 : Int32).toNatClampNeg)).toNatClampNeg)), (0, .ref (a 0)), (1, .int p1)] → W p l e (rmk 3 68) s m [.ref (a 0), .int p1].toArray below meth c H locs 0 0 (MQ below (Qct E A (wX4 E a m0) (some (.int r))) [.ref (a 0), .int p1].toArray s 0 0 A) (F0 m 42 ls [.int x8]) := by
    intro H locs ls hP hD hS hl
    refine lv_istore_n (lv' := [(3, .int x8), (2, .int ((g4_d m0) ((3 : Int32) + ((g4_d m0) (2 : Int32).toNatClampNeg)).toNatClampNeg)), (0, .ref (a 0)), (1, .int p1)]) hx hb dX4_doesNow_42 rfl hl (by decide) rfl (fun ls hl => ?_)
    refine lv_aload_n hx hb dX4_doesNow_43 rfl (lv_at hl 2 rfl) ?_
    refine lv_iload_n hx hb dX4_doesNow_44 rfl (lv_at hl 3 rfl) ?_
    refine lv_iconst (v := (3 : Int32)) hx hb dX4_doesNow_45 (by decide) ?_
    obtain ⟨r12, hc11, hf⟩ := bd1_some hf
    refine cV (X := List.take 0 (wX4 E a m0)) (Y := List.drop 12 (wX4 E a m0)) (w := (wX4 E a m0)) (w' := (wX4 E a m0)) (q0 := 0) lk_X4_58 hx hb hml hown hE hA (c_X4_isBeside l E a m0 p1 (3 : Int32) r12 hc11) rfl rfl hP hD hS rfl rfl ⟨rfl, rfl, Nat.le_of_ble_eq_true rfl, Nat.le_of_ble_eq_true rfl⟩ hl.1 (As := [.int p1, .int (3 : Int32)]) (rest := []) rfl rfl (Nat.le_of_ble_eq_true rfl) ⟨Nat.zero_le _, Nat.zero_le _⟩ dX4_doesNow_46 (fun H locs hP hD hS => ?_)
    refine W.eq (g2 := F0 m 49 ls [.int (bI r12)]) rfl ?_
    obtain ⟨x14, hq16, hf⟩ := jn1_some hf
    have J15 : ∀ (H : Heap) (locs : List Loc) (ls : Array Slot), va_P E.1 vwCl (wX4 E a m0) H → va_D A (wX4 E a m0) → va_S A s.heap H locs → lv_has ls 6 [(3, .int x8), (2, .int ((g4_d m0) ((3 : Int32) + ((g4_d m0) (2 : Int32).toNatClampNeg)).toNatClampNeg)), (0, .ref (a 0)), (1, .int p1)] → W p l e (rmk 3 68) s m [.ref (a 0), .int p1].toArray below meth c H locs 0 0 (MQ below (Qct E A (wX4 E a m0) (some (.int r))) [.ref (a 0), .int p1].toArray s 0 0 A) (F0 m 57 ls [.int x14]) := by
      intro H locs ls hP hD hS hl
      refine lv_istore (lv' := [(4, .int x14), (3, .int x8), (2, .int ((g4_d m0) ((3 : Int32) + ((g4_d m0) (2 : Int32).toNatClampNeg)).toNatClampNeg)), (0, .ref (a 0)), (1, .int p1)]) hx hb dX4_doesNow_57 hl (by decide) rfl (fun ls hl => ?_)
      refine lv_aload_n hx hb dX4_doesNow_59 rfl (lv_at hl 3 rfl) ?_
      refine lv_iload_n hx hb dX4_doesNow_60 rfl (lv_at hl 4 rfl) ?_
      refine lv_iconst (v := (1 : Int32)) hx hb dX4_doesNow_61 (by decide) ?_
      obtain ⟨r18, hc17, hf⟩ := bd1_some hf
      refine cV (X := List.take 0 (wX4 E a m0)) (Y := List.drop 12 (wX4 E a m0)) (w := (wX4 E a m0)) (w' := (wX4 E a m0)) (q0 := 0) lk_X4_54 hx hb hml hown hE hA (c_X4_its l E a m0 p1 (1 : Int32) r18 hc17) rfl rfl hP hD hS rfl rfl ⟨rfl, rfl, Nat.le_of_ble_eq_true rfl, Nat.le_of_ble_eq_true rfl⟩ hl.1 (As := [.int p1, .int (1 : Int32)]) (rest := []) rfl rfl (Nat.le_of_ble_eq_true rfl) ⟨Nat.zero_le _, Nat.zero_le _⟩ dX4_doesNow_62 (fun H locs hP hD hS => ?_)
      refine W.eq (g2 := F0 m 65 ls [.int r18]) rfl ?_
      refine lv_bipush (v := (40 : Int32)) hx hb dX4_doesNow_65 (by decide) ?_
      obtain ⟨x20, hq22, hf⟩ := jn1_some hf
      have J21 : ∀ (H : Heap) (locs : List Loc) (ls : Array Slot), va_P E.1 vwCl (wX4 E a m0) H → va_D A (wX4 E a m0) → va_S A s.heap H locs → lv_has ls 6 [(4, .int x14), (3, .int x8), (2, .int ((g4_d m0) ((3 : Int32) + ((g4_d m0) (2 : Int32).toNatClampNeg)).toNatClampNeg)), (0, .ref (a 0)), (1, .int p1)] → W p l e (rmk 3 68) s m [.ref (a 0), .int p1].toArray below meth c H locs 0 0 (MQ below (Qct E A (wX4 E a m0) (some (.int r))) [.ref (a 0), .int p1].toArray s 0 0 A) (F0 m 80 ls [.int x20]) := by
        intro H locs ls hP hD hS hl
        refine lv_istore (lv' := [(5, .int x20), (4, .int x14), (3, .int x8), (2, .int ((g4_d m0) ((3 : Int32) + ((g4_d m0) (2 : Int32).toNatClampNeg)).toNatClampNeg)), (0, .ref (a 0)), (1, .int p1)]) hx hb dX4_doesNow_80 hl (by decide) rfl (fun ls hl => ?_)
        refine lv_aload_n hx hb dX4_doesNow_82 rfl (lv_at hl 4 rfl) ?_
        refine lv_iload_n hx hb dX4_doesNow_83 rfl (lv_at hl 5 rfl) ?_
        refine lv_iconst (v := (0 : Int32)) hx hb dX4_doesNow_84 (by decide) ?_
        obtain ⟨r25, hc24, hf⟩ := bd1_some hf
        refine cV (X := List.take 0 (wX4 E a m0)) (Y := List.drop 12 (wX4 E a m0)) (w := (wX4 E a m0)) (w' := (wX4 E a m0)) (q0 := 0) lk_X4_54 hx hb hml hown hE hA (c_X4_its l E a m0 p1 (0 : Int32) r25 hc24) rfl rfl hP hD hS rfl rfl ⟨rfl, rfl, Nat.le_of_ble_eq_true rfl, Nat.le_of_ble_eq_true rfl⟩ hl.1 (As := [.int p1, .int (0 : Int32)]) (rest := []) rfl rfl (Nat.le_of_ble_eq_true rfl) ⟨Nat.zero_le _, Nat.zero_le _⟩ dX4_doesNow_85 (fun H locs hP hD hS => ?_)
        refine W.eq (g2 := F0 m 88 ls [.int r25]) rfl ?_
        by_cases c26 : r25 = (1 : Int32)
        · have hf := ip c26 hf
          refine lv_tableIn (off := 36) (tgt := 124) hx hb dX4_doesNow_88 (by rw [c26]; decide) (by rw [c26]; decide) (by rw [c26]; rfl) (by decide) ?_
          refine lv_iload hx hb dX4_doesNow_124 (lv_at hl 1 rfl) ?_
          obtain rfl := so1 hf
          exact rt_i hx hb hr hlocks hP hD hS dX4_doesNow_126
        have hf := im c26 hf
        by_cases c27 : r25 = (2 : Int32)
        · have hf := ip c27 hf
          refine lv_tableIn (off := 39) (tgt := 127) hx hb dX4_doesNow_88 (by rw [c27]; decide) (by rw [c27]; decide) (by rw [c27]; rfl) (by decide) ?_
          refine lv_iload hx hb dX4_doesNow_127 (lv_at hl 0 rfl) ?_
          obtain rfl := so1 hf
          exact rt_i hx hb hr hlocks hP hD hS dX4_doesNow_129
        have hf := im c27 hf
        by_cases c28 : r25 = (3 : Int32)
        · have hf := ip c28 hf
          refine lv_tableIn (off := 42) (tgt := 130) hx hb dX4_doesNow_88 (by rw [c28]; decide) (by rw [c28]; decide) (by rw [c28]; rfl) (by decide) ?_
          refine lv_iconst (v := (0 : Int32)) hx hb dX4_doesNow_130 (by decide) ?_
          obtain rfl := so1 hf
          exact rt_i hx hb hr hlocks hP hD hS dX4_doesNow_131
        have hf := im c28 hf
        by_cases c29 : r25 = (4 : Int32)
        · have hf := ip c29 hf
          refine lv_tableIn (off := 44) (tgt := 132) hx hb dX4_doesNow_88 (by rw [c29]; decide) (by rw [c29]; decide) (by rw [c29]; rfl) (by decide) ?_
          refine lv_iload_n hx hb dX4_doesNow_132 rfl (lv_at hl 3 rfl) ?_
          refine lv_iconst (v := (4 : Int32)) hx hb dX4_doesNow_133 (by decide) ?_
          refine lv_icmp_eq (tgt := 151) hx hb dX4_doesNow_134 (by decide) (fun c30 => ?_) (fun c30 => ?_)
          · have hf := ip c30 hf
            refine lv_iconst (v := (4 : Int32)) hx hb dX4_doesNow_151 (by decide) ?_
            refine lv_goto (tgt := 157) hx hb dX4_doesNow_152 (by decide) ?_
            obtain rfl := so1 hf
            exact rt_i hx hb hr hlocks hP hD hS dX4_doesNow_157
          · have hf := im c30 hf
            refine lv_aload_n hx hb dX4_doesNow_137 rfl (lv_at hl 4 rfl) ?_
            refine va_get (D := E.1) (ci := 4) (v := .ref (a 1)) (C := RX4) (T := TX4) (N := 18) hx hb hts inX4 hown hE.2.1 hP 0 rfl rfl 0 (by decide) (hE.w tw_598) (fun _ h9 => h9) rfl dX4_doesNow_138 ?_
            refine lv_iconst (v := (2 : Int32)) hx hb dX4_doesNow_141 (by decide) ?_
            obtain ⟨hg31, hf⟩ := gd_some hf
            refine va_iald hx hb hE.2.1 hP 1 0 rfl rfl hg31 dX4_doesNow_142 ?_
            refine lv_bipush (v := (8 : Int32)) hx hb dX4_doesNow_143 (by decide) ?_
            refine lv_irem hx hb dX4_doesNow_145 (by decide) ?_
            refine lv_bipush (v := (7 : Int32)) hx hb dX4_doesNow_146 (by decide) ?_
            refine lv_icmp_ne (tgt := 155) hx hb dX4_doesNow_148 (by decide) (fun c32 => ?_) (fun c32 => ?_)
            · have hf := im c32 hf
              refine lv_iload hx hb dX4_doesNow_155 (lv_at hl 1 rfl) ?_
              obtain rfl := so1 hf
              exact rt_i hx hb hr hlocks hP hD hS dX4_doesNow_157
            · have hf := ip c32 hf
              refine lv_iconst (v := (4 : Int32)) hx hb dX4_doesNow_151 (by decide) ?_
              refine lv_goto (tgt := 157) hx hb dX4_doesNow_152 (by decide) ?_
              obtain rfl := so1 hf
              exact rt_i hx hb hr hlocks hP hD hS dX4_doesNow_157
        have hf := im c29 hf
        by_cases c33 : r25 = (5 : Int32)
        · have hf := ip c33 hf
          refine lv_tableIn (off := 70) (tgt := 158) hx hb dX4_doesNow_88 (by rw [c33]; decide) (by rw [c33]; decide) (by rw [c33]; rfl) (by decide) ?_
          refine lv_aload_n hx hb dX4_doesNow_158 rfl (lv_at hl 4 rfl) ?_
          refine lv_iload_n hx hb dX4_doesNow_159 rfl (lv_at hl 5 rfl) ?_
          refine lv_iconst (v := (1 : Int32)) hx hb dX4_doesNow_160 (by decide) ?_
          obtain ⟨r35, hc34, hf⟩ := bd1_some hf
          refine cV (X := List.take 0 (wX4 E a m0)) (Y := List.drop 12 (wX4 E a m0)) (w := (wX4 E a m0)) (w' := (wX4 E a m0)) (q0 := 0) lk_X4_58 hx hb hml hown hE hA (c_X4_isBeside l E a m0 p1 (1 : Int32) r35 hc34) rfl rfl hP hD hS rfl rfl ⟨rfl, rfl, Nat.le_of_ble_eq_true rfl, Nat.le_of_ble_eq_true rfl⟩ hl.1 (As := [.int p1, .int (1 : Int32)]) (rest := []) rfl rfl (Nat.le_of_ble_eq_true rfl) ⟨Nat.zero_le _, Nat.zero_le _⟩ dX4_doesNow_161 (fun H locs hP hD hS => ?_)
          refine W.eq (g2 := F0 m 164 ls [.int (bI r35)]) rfl ?_
          refine lv_if_eq (tgt := 171) hx hb dX4_doesNow_164 (by decide) (fun c36 => ?_) (fun c36 => ?_)
          · have hf := ip c36 hf
            refine lv_iload hx hb dX4_doesNow_171 (lv_at hl 0 rfl) ?_
            obtain rfl := so1 hf
            exact rt_i hx hb hr hlocks hP hD hS dX4_doesNow_173
          · have hf := im c36 hf
            refine lv_iconst (v := (1 : Int32)) hx hb dX4_doesNow_167 (by decide) ?_
            refine lv_goto (tgt := 173) hx hb dX4_doesNow_168 (by decide) ?_
            obtain rfl := so1 hf
            exact rt_i hx hb hr hlocks hP hD hS dX4_doesNow_173
        have hf := im c33 hf
        refine lv_tableOut (tgt := 174) hx hb dX4_doesNow_88 (by have zc26 := lv_neT c26 (a := 1) (by decide); have zc27 := lv_neT c27 (a := 2) (by decide); have zc28 := lv_neT c28 (a := 3) (by decide); have zc29 := lv_neT c29 (a := 4) (by decide); have zc33 := lv_neT c33 (a := 5) (by decide); omega) (by decide) ?_
        refine lv_iload_n hx hb dX4_doesNow_174 rfl (lv_at hl 2 rfl) ?_
        obtain rfl := so1 hf
        exact rt_i hx hb hr hlocks hP hD hS dX4_doesNow_175
      refine lv_icmp_lt (tgt := 79) hx hb dX4_doesNow_67 (by decide) (fun c19 => ?_) (fun c19 => ?_)
      · have hq22 := ie c19 hq22
        refine lv_iload_n hx hb dX4_doesNow_79 rfl (lv_at hl 1 rfl) ?_
        obtain rfl := pj1 hq22
        exact J21 _ _ _ hP hD hS (lv_sub hl [0, 1, 2, 3, 4] rfl)
      · have hq22 := ien c19 hq22
        refine lv_iload_n hx hb dX4_doesNow_70 rfl (lv_at hl 2 rfl) ?_
        refine lv_iconst (v := (2 : Int32)) hx hb dX4_doesNow_71 (by decide) ?_
        refine lv_icmp_eq (tgt := 79) hx hb dX4_doesNow_72 (by decide) (fun c23 => ?_) (fun c23 => ?_)
        · have hq22 := ie c23 hq22
          refine lv_iload_n hx hb dX4_doesNow_79 rfl (lv_at hl 1 rfl) ?_
          obtain rfl := pj1 hq22
          exact J21 _ _ _ hP hD hS (lv_sub hl [0, 1, 2, 3, 4] rfl)
        · have hq22 := ien c23 hq22
          refine lv_iconst (v := (1 : Int32)) hx hb dX4_doesNow_75 (by decide) ?_
          refine lv_goto (tgt := 80) hx hb dX4_doesNow_76 (by decide) ?_
          obtain rfl := pj1 hq22
          exact J21 _ _ _ hP hD hS (lv_sub hl [0, 1, 2, 3, 4] rfl)
    refine lv_if_eq (tgt := 56) hx hb dX4_doesNow_49 (by decide) (fun c13 => ?_) (fun c13 => ?_)
    · have hq16 := ie c13 hq16
      refine lv_iload_n hx hb dX4_doesNow_56 rfl (lv_at hl 0 rfl) ?_
      obtain rfl := pj1 hq16
      exact J15 _ _ _ hP hD hS (lv_sub hl [0, 1, 2, 3] rfl)
    · have hq16 := ien c13 hq16
      refine lv_iconst (v := (3 : Int32)) hx hb dX4_doesNow_52 (by decide) ?_
      refine lv_goto (tgt := 57) hx hb dX4_doesNow_53 (by decide) ?_
      obtain rfl := pj1 hq16
      exact J15 _ _ _ hP hD hS (lv_sub hl [0, 1, 2, 3] rfl)
  refine lv_icmp_lt (tgt := 41) hx hb dX4_doesNow_34 (by decide) (fun c7 => ?_) (fun c7 => ?_)
  · have hq10 := ie c7 hq10
    refine lv_iconst (v := (0 : Int32)) hx hb dX4_doesNow_41 (by decide) ?_
    obtain rfl := pj1 hq10
    exact J9 _ _ _ hP hD hS (lv_sub hl [0, 1, 2] rfl)
  · have hq10 := ien c7 hq10
    refine lv_iload_n hx hb dX4_doesNow_37 rfl (lv_at hl 0 rfl) ?_
    refine lv_goto (tgt := 42) hx hb dX4_doesNow_38 (by decide) ?_
    obtain rfl := pj1 hq10
    exact J9 _ _ _ hP hD hS (lv_sub hl [0, 1, 2] rfl)
def f_X4_scoresFor (m0 : MS) (p1 : Int32) (p2 : Int32) (p3 : Int32) : Option (Int32) := jn1 (if p2 = p3 then ((3 : Int32)) else if p2 = 0 then ((-1 : Int32)) else ((-2 : Int32))) (fun x2 => jn1 (if p2 = (3 : Int32) then if p3 = (3 : Int32) then ((5 : Int32)) else (x2) else (x2)) (fun x7 => jn1 (if p2 = (1 : Int32) then ((1 : Int32)) else ((0 : Int32))) (fun x12 => bd1 (f_X4_its m0 p1 (0 : Int32)) (fun r16 => if r16 = (1 : Int32) then some (x7) else if r16 = (2 : Int32) then some ((x2 + x12)) else if r16 = (3 : Int32) then if p3 = 0 then some ((1 : Int32)) else some ((-3 : Int32)) else if r16 = (4 : Int32) then jn1 (if p2 = (4 : Int32) then ((2 : Int32)) else ((0 : Int32))) (fun x23 => some ((x7 - x23))) else if r16 = (5 : Int32) then bd1 (f_X4_held (x2 + x12) (0 : Int32) (99 : Int32)) (fun r28 => some (r28)) else some (x2)))))
set_option maxHeartbeats 4000000 in
set_option maxRecDepth 100000 in
theorem c_X4_scoresFor (l : Launch) (E : EV) (a : Nat → Nat) (m0 : MS) (p1 : Int32) (p2 : Int32) (p3 : Int32)  (r : Int32) (hf : f_X4_scoresFor m0 p1 p2 p3 = some r) : Ct l E yX4_scoresFor cX4_scoresFor 7 ((Option.some FieldType.int)) (rmk 1 22) [.ref (a 0), .int p1, .int p2, .int p3] (wX4 E a m0) (wX4 E a m0) (some (.int r)) := by
  refine Ct.of (by decide) (Nat.le_of_ble_eq_true rfl) ?_
  intro p e s m below meth c A ls hC hP hD hl
  obtain ⟨hx, hb, hr, hml, hown, hlocks, hE, hA⟩ := hC
  have hts : ∀ w ∈ tbl, w.before [.ref (a 0), .int p1, .int p2, .int p3].toArray s = true := fun w hw => hE.w hw
  have hS : va_S A s.heap s.heap [] := va_S.rf
  have hl : lv_has ls 7 [(0, .ref (a 0)), (1, .int p1), (2, .int p2), (3, .int p3)] := hl
  unfold f_X4_scoresFor at hf
  refine lv_iload_n hx hb dX4_scoresFor_0 rfl (lv_at hl 2 rfl) ?_
  refine lv_iload_n hx hb dX4_scoresFor_1 rfl (lv_at hl 3 rfl) ?_
  obtain ⟨x2, hq4, hf⟩ := jn1_some hf
  have J3 : ∀ (H : Heap) (locs : List Loc) (ls : Array Slot), va_P E.1 vwCl (wX4 E a m0) H → va_D A (wX4 E a m0) → va_S A s.heap H locs → lv_has ls 7 [(0, .ref (a 0)), (1, .int p1), (2, .int p2), (3, .int p3)] → W p l e (rmk 1 22) s m [.ref (a 0), .int p1, .int p2, .int p3].toArray below meth c H locs 0 0 (MQ below (Qct E A (wX4 E a m0) (some (.int r))) [.ref (a 0), .int p1, .int p2, .int p3].toArray s 0 0 A) (F0 m 19 ls [.int x2]) := by
    intro H locs ls hP hD hS hl
    refine lv_istore (lv' := [(4, .int x2), (0, .ref (a 0)), (1, .int p1), (2, .int p2), (3, .int p3)]) hx hb dX4_scoresFor_19 hl (by decide) rfl (fun ls hl => ?_)
    refine lv_iload_n hx hb dX4_scoresFor_21 rfl (lv_at hl 3 rfl) ?_
    refine lv_iconst (v := (3 : Int32)) hx hb dX4_scoresFor_22 (by decide) ?_
    obtain ⟨x7, hq9, hf⟩ := jn1_some hf
    have J8 : ∀ (H : Heap) (locs : List Loc) (ls : Array Slot), va_P E.1 vwCl (wX4 E a m0) H → va_D A (wX4 E a m0) → va_S A s.heap H locs → lv_has ls 7 [(4, .int x2), (0, .ref (a 0)), (1, .int p1), (2, .int p2), (3, .int p3)] → W p l e (rmk 1 22) s m [.ref (a 0), .int p1, .int p2, .int p3].toArray below meth c H locs 0 0 (MQ below (Qct E A (wX4 E a m0) (some (.int r))) [.ref (a 0), .int p1, .int p2, .int p3].toArray s 0 0 A) (F0 m 37 ls [.int x7]) := by
      intro H locs ls hP hD hS hl
      refine lv_istore (lv' := [(5, .int x7), (4, .int x2), (0, .ref (a 0)), (1, .int p1), (2, .int p2), (3, .int p3)]) hx hb dX4_scoresFor_37 hl (by decide) rfl (fun ls hl => ?_)
      refine lv_iload hx hb dX4_scoresFor_39 (lv_at hl 1 rfl) ?_
      refine lv_iload_n hx hb dX4_scoresFor_41 rfl (lv_at hl 4 rfl) ?_
      refine lv_iconst (v := (1 : Int32)) hx hb dX4_scoresFor_42 (by decide) ?_
      obtain ⟨x12, hq14, hf⟩ := jn1_some hf
      have J13 : ∀ (H : Heap) (locs : List Loc) (ls : Array Slot), va_P E.1 vwCl (wX4 E a m0) H → va_D A (wX4 E a m0) → va_S A s.heap H locs → lv_has ls 7 [(5, .int x7), (4, .int x2), (0, .ref (a 0)), (1, .int p1), (2, .int p2), (3, .int p3)] → W p l e (rmk 1 22) s m [.ref (a 0), .int p1, .int p2, .int p3].toArray below meth c H locs 0 0 (MQ below (Qct E A (wX4 E a m0) (some (.int r))) [.ref (a 0), .int p1, .int p2, .int p3].toArray s 0 0 A) (F0 m 51 ls [.int x12, .int x2]) := by
        intro H locs ls hP hD hS hl
        refine lv_iadd hx hb dX4_scoresFor_51 ?_
        refine lv_istore (lv' := [(6, .int (x2 + x12)), (5, .int x7), (4, .int x2), (0, .ref (a 0)), (1, .int p1), (2, .int p2), (3, .int p3)]) hx hb dX4_scoresFor_52 hl (by decide) rfl (fun ls hl => ?_)
        refine lv_aload_n hx hb dX4_scoresFor_54 rfl (lv_at hl 3 rfl) ?_
        refine lv_iload_n hx hb dX4_scoresFor_55 rfl (lv_at hl 4 rfl) ?_
        refine lv_iconst (v := (0 : Int32)) hx hb dX4_scoresFor_56 (by decide) ?_
        obtain ⟨r16, hc15, hf⟩ := bd1_some hf
        refine cV (X := List.take 0 (wX4 E a m0)) (Y := List.drop 12 (wX4 E a m0)) (w := (wX4 E a m0)) (w' := (wX4 E a m0)) (q0 := 0) lk_X4_54 hx hb hml hown hE hA (c_X4_its l E a m0 p1 (0 : Int32) r16 hc15) rfl rfl hP hD hS rfl rfl ⟨rfl, rfl, Nat.le_of_ble_eq_true rfl, Nat.le_of_ble_eq_true rfl⟩ hl.1 (As := [.int p1, .int (0 : Int32)]) (rest := []) rfl rfl (Nat.le_of_ble_eq_true rfl) ⟨Nat.zero_le _, Nat.zero_le _⟩ dX4_scoresFor_57 (fun H locs hP hD hS => ?_)
        refine W.eq (g2 := F0 m 60 ls [.int r16]) rfl ?_
        by_cases c17 : r16 = (1 : Int32)
        · have hf := ip c17 hf
          refine lv_tableIn (off := 36) (tgt := 96) hx hb dX4_scoresFor_60 (by rw [c17]; decide) (by rw [c17]; decide) (by rw [c17]; rfl) (by decide) ?_
          refine lv_iload hx hb dX4_scoresFor_96 (lv_at hl 1 rfl) ?_
          obtain rfl := so1 hf
          exact rt_i hx hb hr hlocks hP hD hS dX4_scoresFor_98
        have hf := im c17 hf
        by_cases c18 : r16 = (2 : Int32)
        · have hf := ip c18 hf
          refine lv_tableIn (off := 39) (tgt := 99) hx hb dX4_scoresFor_60 (by rw [c18]; decide) (by rw [c18]; decide) (by rw [c18]; rfl) (by decide) ?_
          refine lv_iload hx hb dX4_scoresFor_99 (lv_at hl 0 rfl) ?_
          obtain rfl := so1 hf
          exact rt_i hx hb hr hlocks hP hD hS dX4_scoresFor_101
        have hf := im c18 hf
        by_cases c19 : r16 = (3 : Int32)
        · have hf := ip c19 hf
          refine lv_tableIn (off := 42) (tgt := 102) hx hb dX4_scoresFor_60 (by rw [c19]; decide) (by rw [c19]; decide) (by rw [c19]; rfl) (by decide) ?_
          refine lv_iload_n hx hb dX4_scoresFor_102 rfl (lv_at hl 6 rfl) ?_
          refine lv_if_ne (tgt := 110) hx hb dX4_scoresFor_103 (by decide) (fun c20 => ?_) (fun c20 => ?_)
          · have hf := im c20 hf
            refine lv_bipush (v := (-3 : Int32)) hx hb dX4_scoresFor_110 (by decide) ?_
            obtain rfl := so1 hf
            exact rt_i hx hb hr hlocks hP hD hS dX4_scoresFor_112
          · have hf := ip c20 hf
            refine lv_iconst (v := (1 : Int32)) hx hb dX4_scoresFor_106 (by decide) ?_
            refine lv_goto (tgt := 112) hx hb dX4_scoresFor_107 (by decide) ?_
            obtain rfl := so1 hf
            exact rt_i hx hb hr hlocks hP hD hS dX4_scoresFor_112
        have hf := im c19 hf
        by_cases c21 : r16 = (4 : Int32)
        · have hf := ip c21 hf
          refine lv_tableIn (off := 53) (tgt := 113) hx hb dX4_scoresFor_60 (by rw [c21]; decide) (by rw [c21]; decide) (by rw [c21]; rfl) (by decide) ?_
          refine lv_iload hx hb dX4_scoresFor_113 (lv_at hl 1 rfl) ?_
          refine lv_iload_n hx hb dX4_scoresFor_115 rfl (lv_at hl 5 rfl) ?_
          refine lv_iconst (v := (4 : Int32)) hx hb dX4_scoresFor_116 (by decide) ?_
          obtain ⟨x23, hq25, hf⟩ := jn1_some hf
          have J24 : ∀ (H : Heap) (locs : List Loc) (ls : Array Slot), va_P E.1 vwCl (wX4 E a m0) H → va_D A (wX4 E a m0) → va_S A s.heap H locs → lv_has ls 7 [(6, .int (x2 + x12)), (5, .int x7), (4, .int x2), (0, .ref (a 0)), (1, .int p1), (2, .int p2), (3, .int p3)] → W p l e (rmk 1 22) s m [.ref (a 0), .int p1, .int p2, .int p3].toArray below meth c H locs 0 0 (MQ below (Qct E A (wX4 E a m0) (some (.int r))) [.ref (a 0), .int p1, .int p2, .int p3].toArray s 0 0 A) (F0 m 125 ls [.int x23, .int x7]) := by
            intro H locs ls hP hD hS hl
            refine lv_isub hx hb dX4_scoresFor_125 ?_
            obtain rfl := so1 hf
            exact rt_i hx hb hr hlocks hP hD hS dX4_scoresFor_126
          refine lv_icmp_ne (tgt := 124) hx hb dX4_scoresFor_117 (by decide) (fun c22 => ?_) (fun c22 => ?_)
          · have hq25 := ien c22 hq25
            refine lv_iconst (v := (0 : Int32)) hx hb dX4_scoresFor_124 (by decide) ?_
            obtain rfl := pj1 hq25
            exact J24 _ _ _ hP hD hS (lv_sub hl [0, 1, 2, 3, 4, 5, 6] rfl)
          · have hq25 := ie c22 hq25
            refine lv_iconst (v := (2 : Int32)) hx hb dX4_scoresFor_120 (by decide) ?_
            refine lv_goto (tgt := 125) hx hb dX4_scoresFor_121 (by decide) ?_
            obtain rfl := pj1 hq25
            exact J24 _ _ _ hP hD hS (lv_sub hl [0, 1, 2, 3, 4, 5, 6] rfl)
        have hf := im c21 hf
        by_cases c26 : r16 = (5 : Int32)
        · have hf := ip c26 hf
          refine lv_tableIn (off := 67) (tgt := 127) hx hb dX4_scoresFor_60 (by rw [c26]; decide) (by rw [c26]; decide) (by rw [c26]; rfl) (by decide) ?_
          refine lv_iload hx hb dX4_scoresFor_127 (lv_at hl 0 rfl) ?_
          refine lv_iconst (v := (0 : Int32)) hx hb dX4_scoresFor_129 (by decide) ?_
          refine lv_bipush (v := (99 : Int32)) hx hb dX4_scoresFor_130 (by decide) ?_
          obtain ⟨r28, hc27, hf⟩ := bd1_some hf
          refine cS (X := List.take 0 (wX4 E a m0)) (Y := List.drop 0 (wX4 E a m0)) (w := (wX4 E a m0)) (w' := (wX4 E a m0)) lk_X4_62 hx hb hml hown hE hA (c_X4_held l E (x2 + x12) (0 : Int32) (99 : Int32) r28 hc27) rfl rfl hP hD hS ⟨rfl, rfl, Nat.le_of_ble_eq_true rfl, Nat.le_of_ble_eq_true rfl⟩ hl.1 (As := [.int (x2 + x12), .int (0 : Int32), .int (99 : Int32)]) (rest := []) rfl rfl (Nat.le_of_ble_eq_true rfl) ⟨Nat.zero_le _, Nat.zero_le _⟩ dX4_scoresFor_132 (fun H locs hP hD hS => ?_)
          refine W.eq (g2 := F0 m 135 ls [.int r28]) rfl ?_
          obtain rfl := so1 hf
          exact rt_i hx hb hr hlocks hP hD hS dX4_scoresFor_135
        have hf := im c26 hf
        refine lv_tableOut (tgt := 136) hx hb dX4_scoresFor_60 (by have zc17 := lv_neT c17 (a := 1) (by decide); have zc18 := lv_neT c18 (a := 2) (by decide); have zc19 := lv_neT c19 (a := 3) (by decide); have zc21 := lv_neT c21 (a := 4) (by decide); have zc26 := lv_neT c26 (a := 5) (by decide); omega) (by decide) ?_
        refine lv_iload hx hb dX4_scoresFor_136 (lv_at hl 2 rfl) ?_
        obtain rfl := so1 hf
        exact rt_i hx hb hr hlocks hP hD hS dX4_scoresFor_138
      refine lv_icmp_ne (tgt := 50) hx hb dX4_scoresFor_43 (by decide) (fun c11 => ?_) (fun c11 => ?_)
      · have hq14 := ien c11 hq14
        refine lv_iconst (v := (0 : Int32)) hx hb dX4_scoresFor_50 (by decide) ?_
        obtain rfl := pj1 hq14
        exact J13 _ _ _ hP hD hS (lv_sub hl [0, 1, 2, 3, 4, 5] rfl)
      · have hq14 := ie c11 hq14
        refine lv_iconst (v := (1 : Int32)) hx hb dX4_scoresFor_46 (by decide) ?_
        refine lv_goto (tgt := 51) hx hb dX4_scoresFor_47 (by decide) ?_
        obtain rfl := pj1 hq14
        exact J13 _ _ _ hP hD hS (lv_sub hl [0, 1, 2, 3, 4, 5] rfl)
    refine lv_icmp_ne (tgt := 35) hx hb dX4_scoresFor_23 (by decide) (fun c6 => ?_) (fun c6 => ?_)
    · have hq9 := ien c6 hq9
      refine lv_iload hx hb dX4_scoresFor_35 (lv_at hl 0 rfl) ?_
      obtain rfl := pj1 hq9
      exact J8 _ _ _ hP hD hS (lv_sub hl [0, 1, 2, 3, 4] rfl)
    · have hq9 := ie c6 hq9
      refine lv_iload_n hx hb dX4_scoresFor_26 rfl (lv_at hl 4 rfl) ?_
      refine lv_iconst (v := (3 : Int32)) hx hb dX4_scoresFor_27 (by decide) ?_
      refine lv_icmp_ne (tgt := 35) hx hb dX4_scoresFor_28 (by decide) (fun c10 => ?_) (fun c10 => ?_)
      · have hq9 := ien c10 hq9
        refine lv_iload hx hb dX4_scoresFor_35 (lv_at hl 0 rfl) ?_
        obtain rfl := pj1 hq9
        exact J8 _ _ _ hP hD hS (lv_sub hl [0, 1, 2, 3, 4] rfl)
      · have hq9 := ie c10 hq9
        refine lv_iconst (v := (5 : Int32)) hx hb dX4_scoresFor_31 (by decide) ?_
        refine lv_goto (tgt := 37) hx hb dX4_scoresFor_32 (by decide) ?_
        obtain rfl := pj1 hq9
        exact J8 _ _ _ hP hD hS (lv_sub hl [0, 1, 2, 3, 4] rfl)
  refine lv_icmp_ne (tgt := 9) hx hb dX4_scoresFor_2 (by decide) (fun c1 => ?_) (fun c1 => ?_)
  · have hq4 := ien c1 hq4
    refine lv_iload_n hx hb dX4_scoresFor_9 rfl (lv_at hl 2 rfl) ?_
    refine lv_if_ne (tgt := 17) hx hb dX4_scoresFor_10 (by decide) (fun c5 => ?_) (fun c5 => ?_)
    · have hq4 := ien c5 hq4
      refine lv_bipush (v := (-2 : Int32)) hx hb dX4_scoresFor_17 (by decide) ?_
      obtain rfl := pj1 hq4
      exact J3 _ _ _ hP hD hS (lv_sub hl [0, 1, 2, 3] rfl)
    · have hq4 := ie c5 hq4
      refine lv_iconst (v := (-1 : Int32)) hx hb dX4_scoresFor_13 (by decide) ?_
      refine lv_goto (tgt := 19) hx hb dX4_scoresFor_14 (by decide) ?_
      obtain rfl := pj1 hq4
      exact J3 _ _ _ hP hD hS (lv_sub hl [0, 1, 2, 3] rfl)
  · have hq4 := ie c1 hq4
    refine lv_iconst (v := (3 : Int32)) hx hb dX4_scoresFor_5 (by decide) ?_
    refine lv_goto (tgt := 19) hx hb dX4_scoresFor_6 (by decide) ?_
    obtain rfl := pj1 hq4
    exact J3 _ _ _ hP hD hS (lv_sub hl [0, 1, 2, 3] rfl)
def f_X4_stales (m0 : MS) (p1 : Int32) : Option (Int32) := bd1 (f_X4_its m0 p1 (0 : Int32)) (fun r2 => if r2 = (1 : Int32) then some ((3 : Int32)) else if r2 = (2 : Int32) then some ((8 : Int32)) else if r2 = (3 : Int32) then some ((-5 : Int32)) else if r2 = (4 : Int32) then some ((0 : Int32)) else if r2 = (5 : Int32) then some ((5 : Int32)) else some ((4 : Int32)))
set_option maxHeartbeats 4000000 in
set_option maxRecDepth 100000 in
theorem c_X4_stales (l : Launch) (E : EV) (a : Nat → Nat) (m0 : MS) (p1 : Int32)  (r : Int32) (hf : f_X4_stales m0 p1 = some r) : Ct l E yX4_stales cX4_stales 2 ((Option.some FieldType.int)) (rmk 1 22) [.ref (a 0), .int p1] (wX4 E a m0) (wX4 E a m0) (some (.int r)) := by
  refine Ct.of (by decide) (Nat.le_of_ble_eq_true rfl) ?_
  intro p e s m below meth c A ls hC hP hD hl
  obtain ⟨hx, hb, hr, hml, hown, hlocks, hE, hA⟩ := hC
  have hts : ∀ w ∈ tbl, w.before [.ref (a 0), .int p1].toArray s = true := fun w hw => hE.w hw
  have hS : va_S A s.heap s.heap [] := va_S.rf
  have hl : lv_has ls 2 [(0, .ref (a 0)), (1, .int p1)] := hl
  unfold f_X4_stales at hf
  refine lv_aload_n hx hb dX4_stales_0 rfl (lv_at hl 0 rfl) ?_
  refine lv_iload_n hx hb dX4_stales_1 rfl (lv_at hl 1 rfl) ?_
  refine lv_iconst (v := (0 : Int32)) hx hb dX4_stales_2 (by decide) ?_
  obtain ⟨r2, hc1, hf⟩ := bd1_some hf
  refine cV (X := List.take 0 (wX4 E a m0)) (Y := List.drop 12 (wX4 E a m0)) (w := (wX4 E a m0)) (w' := (wX4 E a m0)) (q0 := 0) lk_X4_54 hx hb hml hown hE hA (c_X4_its l E a m0 p1 (0 : Int32) r2 hc1) rfl rfl hP hD hS rfl rfl ⟨rfl, rfl, Nat.le_of_ble_eq_true rfl, Nat.le_of_ble_eq_true rfl⟩ hl.1 (As := [.int p1, .int (0 : Int32)]) (rest := []) rfl rfl (Nat.le_of_ble_eq_true rfl) ⟨Nat.zero_le _, Nat.zero_le _⟩ dX4_stales_3 (fun H locs hP hD hS => ?_)
  refine W.eq (g2 := F0 m 6 ls [.int r2]) rfl ?_
  by_cases c3 : r2 = (1 : Int32)
  · have hf := ip c3 hf
    refine lv_tableIn (off := 34) (tgt := 40) hx hb dX4_stales_6 (by rw [c3]; decide) (by rw [c3]; decide) (by rw [c3]; rfl) (by decide) ?_
    refine lv_iconst (v := (3 : Int32)) hx hb dX4_stales_40 (by decide) ?_
    obtain rfl := so1 hf
    exact rt_i hx hb hr hlocks hP hD hS dX4_stales_41
  have hf := im c3 hf
  by_cases c4 : r2 = (2 : Int32)
  · have hf := ip c4 hf
    refine lv_tableIn (off := 36) (tgt := 42) hx hb dX4_stales_6 (by rw [c4]; decide) (by rw [c4]; decide) (by rw [c4]; rfl) (by decide) ?_
    refine lv_bipush (v := (8 : Int32)) hx hb dX4_stales_42 (by decide) ?_
    obtain rfl := so1 hf
    exact rt_i hx hb hr hlocks hP hD hS dX4_stales_44
  have hf := im c4 hf
  by_cases c5 : r2 = (3 : Int32)
  · have hf := ip c5 hf
    refine lv_tableIn (off := 39) (tgt := 45) hx hb dX4_stales_6 (by rw [c5]; decide) (by rw [c5]; decide) (by rw [c5]; rfl) (by decide) ?_
    refine lv_bipush (v := (-5 : Int32)) hx hb dX4_stales_45 (by decide) ?_
    obtain rfl := so1 hf
    exact rt_i hx hb hr hlocks hP hD hS dX4_stales_47
  have hf := im c5 hf
  by_cases c6 : r2 = (4 : Int32)
  · have hf := ip c6 hf
    refine lv_tableIn (off := 42) (tgt := 48) hx hb dX4_stales_6 (by rw [c6]; decide) (by rw [c6]; decide) (by rw [c6]; rfl) (by decide) ?_
    refine lv_iconst (v := (0 : Int32)) hx hb dX4_stales_48 (by decide) ?_
    obtain rfl := so1 hf
    exact rt_i hx hb hr hlocks hP hD hS dX4_stales_49
  have hf := im c6 hf
  by_cases c7 : r2 = (5 : Int32)
  · have hf := ip c7 hf
    refine lv_tableIn (off := 44) (tgt := 50) hx hb dX4_stales_6 (by rw [c7]; decide) (by rw [c7]; decide) (by rw [c7]; rfl) (by decide) ?_
    refine lv_iconst (v := (5 : Int32)) hx hb dX4_stales_50 (by decide) ?_
    obtain rfl := so1 hf
    exact rt_i hx hb hr hlocks hP hD hS dX4_stales_51
  have hf := im c7 hf
  refine lv_tableOut (tgt := 52) hx hb dX4_stales_6 (by have zc3 := lv_neT c3 (a := 1) (by decide); have zc4 := lv_neT c4 (a := 2) (by decide); have zc5 := lv_neT c5 (a := 3) (by decide); have zc6 := lv_neT c6 (a := 4) (by decide); have zc7 := lv_neT c7 (a := 5) (by decide); omega) (by decide) ?_
  refine lv_iconst (v := (4 : Int32)) hx hb dX4_stales_52 (by decide) ?_
  obtain rfl := so1 hf
  exact rt_i hx hb hr hlocks hP hD hS dX4_stales_53
