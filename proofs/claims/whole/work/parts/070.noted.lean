def f_X3_finding (n : NS) (p1 : Int32) : Option (Int32 × NS) := bd1 (if ((-1000000001 : Int32) - p1) < 0 then some (n) else if (7 : Int32) ≤ ((-1000000001 : Int32) - p1) then some (n) else gd ((-1000000001 : Int32) - p1) 7 (gd ((-1000000001 : Int32) - p1) 7 (jn1 (s3_found n (upd (g3_found n) ((-1000000001 : Int32) - p1).toNatClampNeg (((g3_found n) ((-1000000001 : Int32) - p1).toNatClampNeg) + (1 : Int32)))) (fun n_8 => some (n_8))))) (fun n2 => some (p1, n2))
set_option maxHeartbeats 4000000 in
set_option maxRecDepth 100000 in
theorem c_X3_finding (l : Launch) (E : EV) (a : Nat → Nat → Nat) (n : NS) (p1 : Int32)  (r : Int32) (n' : NS) (hf : f_X3_finding n p1 = some (r, n')) : Ct l E yX3_finding cX3_finding 3 ((Option.some FieldType.int)) (rmk 0 0) [.ref ((a 8) 0), .int p1] (wX3 E a n) (wX3 E a n') (some (.int r)) := by
  refine Ct.of (by decide) (Nat.le_of_ble_eq_true rfl) ?_
  intro p e s m below meth c A ls hC hP hD hl
  obtain ⟨hx, hb, hr, hml, hown, hlocks, hE, hA⟩ := hC
  have hts : ∀ w ∈ tbl, w.before [.ref ((a 8) 0), .int p1].toArray s = true := fun w hw => hE.w hw
  have hS : va_S A s.heap s.heap [] := va_S.rf
  have hl : lv_has ls 3 [(0, .ref ((a 8) 0)), (1, .int p1)] := hl
  unfold f_X3_finding at hf
  refine lv_ldc (v := (-1000000001 : Int32)) hx hb hown (hE.w tw_148) dX3_finding_0 ?_
  refine lv_iload_n hx hb dX3_finding_2 rfl (lv_at hl 1 rfl) ?_
  refine lv_isub hx hb dX3_finding_3 ?_
  refine lv_istore_n (lv' := [(2, .int ((-1000000001 : Int32) - p1)), (0, .ref ((a 8) 0)), (1, .int p1)]) hx hb dX3_finding_4 rfl hl (by decide) rfl (fun ls hl => ?_)
  refine lv_iload_n hx hb dX3_finding_5 rfl (lv_at hl 0 rfl) ?_
  obtain ⟨n2, hq4, hf⟩ := bd1_some hf
  have J3 : ∀ (H : Heap) (locs : List Loc) (ls : Array Slot), va_P E.1 vwCl (wX3 E a n2) H → va_D A (wX3 E a n2) → va_S A s.heap H locs → lv_has ls 3 [(2, .int ((-1000000001 : Int32) - p1)), (0, .ref ((a 8) 0)), (1, .int p1)] → W p l e (rmk 0 0) s m [.ref ((a 8) 0), .int p1].toArray below meth c H locs 0 0 (MQ below (Qct E A (wX3 E a n') (some (.int r))) [.ref ((a 8) 0), .int p1].toArray s 0 0 A) (F0 m 25 ls []) := by
    intro H locs ls hP hD hS hl
    refine lv_iload_n hx hb dX3_finding_25 rfl (lv_at hl 2 rfl) ?_
    obtain ⟨rfl, rfl⟩ := so2 hf
    exact rt_i hx hb hr hlocks hP hD hS dX3_finding_26
  refine lv_if_lt (tgt := 25) hx hb dX3_finding_6 (by decide) (fun c1 => ?_) (fun c1 => ?_)
  · have hq4 := ip c1 hq4
    obtain rfl := so1 hq4
    exact J3 _ _ _ hP hD hS (lv_sub hl [0, 1, 2] rfl)
  · have hq4 := im c1 hq4
    refine lv_iload_n hx hb dX3_finding_9 rfl (lv_at hl 0 rfl) ?_
    refine lv_bipush (v := (7 : Int32)) hx hb dX3_finding_10 (by decide) ?_
    refine lv_icmp_ge (tgt := 25) hx hb dX3_finding_12 (by decide) (fun c5 => ?_) (fun c5 => ?_)
    · have hq4 := ip c5 hq4
      obtain rfl := so1 hq4
      exact J3 _ _ _ hP hD hS (lv_sub hl [0, 1, 2] rfl)
    · have hq4 := im c5 hq4
      refine lv_aload_n hx hb dX3_finding_15 rfl (lv_at hl 1 rfl) ?_
      refine va_get (D := E.1) (ci := 3) (v := .ref (a 8 2)) (C := RX3) (T := TX3) (N := 7) hx hb hts inX3 hown hE.2.1 hP 0 rfl rfl 6 (by decide) (hE.w tw_125) (fun _ h9 => h9) rfl dX3_finding_16 ?_
      refine lv_iload_n hx hb dX3_finding_19 rfl (lv_at hl 0 rfl) ?_
      refine lv_dup2_11 hx hb dX3_finding_20 rfl rfl ?_
      obtain ⟨hg6, hq4⟩ := gd_some hq4
      refine va_iald hx hb hE.2.1 hP 36 0 rfl rfl hg6 dX3_finding_21 ?_
      refine lv_iconst (v := (1 : Int32)) hx hb dX3_finding_22 (by decide) ?_
      refine lv_iadd hx hb dX3_finding_23 ?_
      obtain ⟨hg7, hq4⟩ := gd_some hq4
      obtain ⟨n_8, en_8, hq4⟩ := jn1_some hq4
      refine va_iast hx hb hE.2.1 hP hD hS 36 0 rfl rfl hg7 dX3_finding_24 (fun H locs hP hD hS => ?_)
      have hP : va_P E.1 vwCl (wX3 E a n_8) H := wst (by rw [en_8]; exact rfl) hP
      have hD : va_D A (wX3 E a n_8) := wsd (by rw [en_8]; exact rfl) hD
      obtain rfl := so1 hq4
      exact J3 _ _ _ hP hD hS (lv_sub hl [0, 1, 2] rfl)
def f_X3_startTrial (n : NS) : Option (NS) := bd1 (f_X0_become_th (g3_kept n) (g3_house n) (g3_trial n)) (fun t2 => jn1 (s3_trial n t2) (fun n_3 => some (n_3)))
set_option maxHeartbeats 4000000 in
set_option maxRecDepth 100000 in
theorem c_X3_startTrial (l : Launch) (E : EV) (a : Nat → Nat → Nat) (n : NS)  (n' : NS) (hf : f_X3_startTrial n = some n') : Ct l E yX3_startTrial cX3_startTrial 1 (none) (rmk 2 61) [.ref ((a 8) 0)] (wX3 E a n) (wX3 E a n') none := by
  refine Ct.of (by decide) (Nat.le_of_ble_eq_true rfl) ?_
  intro p e s m below meth c A ls hC hP hD hl
  obtain ⟨hx, hb, hr, hml, hown, hlocks, hE, hA⟩ := hC
  have hts : ∀ w ∈ tbl, w.before [.ref ((a 8) 0)].toArray s = true := fun w hw => hE.w hw
  have hS : va_S A s.heap s.heap [] := va_S.rf
  have hl : lv_has ls 1 [(0, .ref ((a 8) 0))] := hl
  unfold f_X3_startTrial at hf
  refine lv_aload_n hx hb dX3_startTrial_0 rfl (lv_at hl 0 rfl) ?_
  refine va_get (D := E.1) (ci := 3) (v := .ref ((a 1) 0)) (C := RX3) (T := TX3) (N := 7) hx hb hts inX3 hown hE.2.1 hP 0 rfl rfl 1 (by decide) (hE.w tw_120) (fun _ h9 => h9) rfl dX3_startTrial_1 ?_
  refine lv_aload_n hx hb dX3_startTrial_4 rfl (lv_at hl 0 rfl) ?_
  refine va_get (D := E.1) (ci := 3) (v := .ref ((a 0) 0)) (C := RX3) (T := TX3) (N := 7) hx hb hts inX3 hown hE.2.1 hP 0 rfl rfl 0 (by decide) (hE.w tw_119) (fun _ h9 => h9) rfl dX3_startTrial_5 ?_
  obtain ⟨t2, hc1, hf⟩ := bd1_some hf
  obtain ⟨n_3, en_3, hf⟩ := jn1_some hf
  refine cVN (X := List.take 1 (wX3 E a n)) (Y := List.drop 25 (wX3 E a n)) (w := (wX3 E a n)) (w' := (wX3 E a n_3)) (q0 := 16) lk_X3_153 hx hb hml hown hE hA (c_X0_become_th l E (a 2) (a 0) (a 1) (g3_kept n) (g3_house n) (g3_trial n) t2 hc1) rfl (by rw [en_3]; rfl) hP hD hS rfl rfl ⟨rfl, rfl, Nat.le_of_ble_eq_true rfl, Nat.le_of_ble_eq_true rfl⟩ hl.1 (As := [.ref ((a 0) 0)]) (rest := []) rfl rfl (Nat.le_of_ble_eq_true rfl) ⟨Nat.zero_le _, Nat.zero_le _⟩ dX3_startTrial_8 (fun H locs hP hD hS => ?_)
  refine W.eq (g2 := F0 m 11 ls []) rfl ?_
  obtain rfl := so1 hf
  exact rt_v hx hb hr hlocks hP hD hS dX3_startTrial_11
def f_X3_isThere (n : NS) (p1 : Int32) : Option (Bool) := bd1 (f_X3_isIn p1 (0 : Int32) ((g0_people (g3_house n)) - (1 : Int32))) (fun r2 => some (r2))
set_option maxHeartbeats 4000000 in
set_option maxRecDepth 100000 in
theorem c_X3_isThere (l : Launch) (E : EV) (a : Nat → Nat → Nat) (n : NS) (p1 : Int32)  (r : Bool) (hf : f_X3_isThere n p1 = some r) : Ct l E yX3_isThere cX3_isThere 2 ((Option.some FieldType.boolean)) (rmk 1 22) [.ref ((a 8) 0), .int p1] (wX3 E a n) (wX3 E a n) (some (.int (bI r))) := by
  refine Ct.of (by decide) (Nat.le_of_ble_eq_true rfl) ?_
  intro p e s m below meth c A ls hC hP hD hl
  obtain ⟨hx, hb, hr, hml, hown, hlocks, hE, hA⟩ := hC
  have hts : ∀ w ∈ tbl, w.before [.ref ((a 8) 0), .int p1].toArray s = true := fun w hw => hE.w hw
  have hS : va_S A s.heap s.heap [] := va_S.rf
  have hl : lv_has ls 2 [(0, .ref ((a 8) 0)), (1, .int p1)] := hl
  unfold f_X3_isThere at hf
  refine lv_iload_n hx hb dX3_isThere_0 rfl (lv_at hl 1 rfl) ?_
  refine lv_iconst (v := (0 : Int32)) hx hb dX3_isThere_1 (by decide) ?_
  refine lv_aload_n hx hb dX3_isThere_2 rfl (lv_at hl 0 rfl) ?_
  refine va_get (D := E.1) (ci := 3) (v := .ref ((a 0) 0)) (C := RX3) (T := TX3) (N := 7) hx hb hts inX3 hown hE.2.1 hP 0 rfl rfl 0 (by decide) (hE.w tw_119) (fun _ h9 => h9) rfl dX3_isThere_3 ?_
  refine va_getN (D := E.1) (ci := 0) (v := .int (g0_people (g3_house n))) (C := RX0) (T := TX0) (N := 10) hx hb hts inX0 hown hE.2.1 hP 9 rfl rfl 2 (by decide) (hE.w tw_31) (fun _ h9 => h9) rfl dX3_isThere_6 ?_
  refine lv_iconst (v := (1 : Int32)) hx hb dX3_isThere_9 (by decide) ?_
  refine lv_isub hx hb dX3_isThere_10 ?_
  obtain ⟨r2, hc1, hf⟩ := bd1_some hf
  refine cS (X := List.take 0 (wX3 E a n)) (Y := List.drop 0 (wX3 E a n)) (w := (wX3 E a n)) (w' := (wX3 E a n)) lk_X3_44 hx hb hml hown hE hA (c_X3_isIn l E p1 (0 : Int32) ((g0_people (g3_house n)) - (1 : Int32)) r2 hc1) rfl rfl hP hD hS ⟨rfl, rfl, Nat.le_of_ble_eq_true rfl, Nat.le_of_ble_eq_true rfl⟩ hl.1 (As := [.int p1, .int (0 : Int32), .int ((g0_people (g3_house n)) - (1 : Int32))]) (rest := []) rfl rfl (Nat.le_of_ble_eq_true rfl) ⟨Nat.zero_le _, Nat.zero_le _⟩ dX3_isThere_11 (fun H locs hP hD hS => ?_)
  refine W.eq (g2 := F0 m 14 ls [.int (bI r2)]) rfl ?_
  obtain rfl := so1 hf
  exact rt_z (bI_nar _) hx hb hr hlocks hP hD hS dX3_isThere_14
def f_X3_refusalOf (n : NS) (p1 : Int32) (p2 : Int32) : Option (Int32) := bd1 (f_X3_isSheet p1) (fun r2 => if (bI r2) = 0 then some ((-1000000001 : Int32)) else gd p1 4 (bd1 (f_X1_isMissing ((g3_sheets n) (p1.toNatClampNeg))) (fun r7 => if (bI r7) = 0 then bd1 (f_X3_isThere n p2) (fun r10 => if (bI r10) = 0 then some ((-1000000001 : Int32)) else some ((0 : Int32))) else some ((-1000000006 : Int32)))))
set_option maxHeartbeats 4000000 in
set_option maxRecDepth 100000 in
theorem c_X3_refusalOf (l : Launch) (E : EV) (a : Nat → Nat → Nat) (n : NS) (p1 : Int32) (p2 : Int32)  (r : Int32) (hf : f_X3_refusalOf n p1 p2 = some r) : Ct l E yX3_refusalOf cX3_refusalOf 3 ((Option.some FieldType.int)) (rmk 2 43) [.ref ((a 8) 0), .int p1, .int p2] (wX3 E a n) (wX3 E a n) (some (.int r)) := by
  refine Ct.of (by decide) (Nat.le_of_ble_eq_true rfl) ?_
  intro p e s m below meth c A ls hC hP hD hl
  obtain ⟨hx, hb, hr, hml, hown, hlocks, hE, hA⟩ := hC
  have hts : ∀ w ∈ tbl, w.before [.ref ((a 8) 0), .int p1, .int p2].toArray s = true := fun w hw => hE.w hw
  have hS : va_S A s.heap s.heap [] := va_S.rf
  have hl : lv_has ls 3 [(0, .ref ((a 8) 0)), (1, .int p1), (2, .int p2)] := hl
  unfold f_X3_refusalOf at hf
  refine lv_iload_n hx hb dX3_refusalOf_0 rfl (lv_at hl 1 rfl) ?_
  obtain ⟨r2, hc1, hf⟩ := bd1_some hf
  refine cS (X := List.take 0 (wX3 E a n)) (Y := List.drop 0 (wX3 E a n)) (w := (wX3 E a n)) (w' := (wX3 E a n)) lk_X3_157 hx hb hml hown hE hA (c_X3_isSheet l E p1 r2 hc1) rfl rfl hP hD hS ⟨rfl, rfl, Nat.le_of_ble_eq_true rfl, Nat.le_of_ble_eq_true rfl⟩ hl.1 (As := [.int p1]) (rest := []) rfl rfl (Nat.le_of_ble_eq_true rfl) ⟨Nat.zero_le _, Nat.zero_le _⟩ dX3_refusalOf_1 (fun H locs hP hD hS => ?_)
  refine W.eq (g2 := F0 m 4 ls [.int (bI r2)]) rfl ?_
  refine lv_if_ne (tgt := 10) hx hb dX3_refusalOf_4 (by decide) (fun c3 => ?_) (fun c3 => ?_)
  · have hf := im c3 hf
    refine lv_aload_n hx hb dX3_refusalOf_10 rfl (lv_at hl 0 rfl) ?_
    refine va_get (D := E.1) (ci := 3) (v := .ref (a 8 1)) (C := RX3) (T := TX3) (N := 7) hx hb hts inX3 hown hE.2.1 hP 0 rfl rfl 5 (by decide) (hE.w tw_124) (fun _ h9 => h9) rfl dX3_refusalOf_11 ?_
    refine lv_iload_n hx hb dX3_refusalOf_14 rfl (lv_at hl 1 rfl) ?_
    obtain ⟨hg4, hf⟩ := gd_some hf
    have hk5 := vp_lt hg4
    refine va_aldq hx hb hE.2.1 hP 27 3 rfl rfl hg4 dX3_refusalOf_15 ?_
    refine W.eq (g2 := F0 m 16 ls [.ref (a (4 + p1.toNatClampNeg) 0)]) rfl ?_
    obtain ⟨r7, hc6, hf⟩ := bd1_some hf
    refine cVN (w := (wX3 E a n)) (w' := (wX3 E a n)) (q0 := 0) lk_X3_167 hx hb hml hown hE hA (c_X1_isMissing l E (a (4 + p1.toNatClampNeg)) ((g3_sheets n) (p1.toNatClampNeg)) r7 hc6) (wX3_spl E a _ hk5) (wX3_spl E a _ hk5) hP hD hS rfl rfl ⟨rfl, rfl, Nat.le_of_ble_eq_true rfl, Nat.le_of_ble_eq_true rfl⟩ hl.1 (As := []) (rest := []) rfl rfl (Nat.le_of_ble_eq_true rfl) ⟨Nat.zero_le _, Nat.zero_le _⟩ dX3_refusalOf_16 (fun H locs hP hD hS => ?_)
    refine W.eq (g2 := F0 m 19 ls [.int (bI r7)]) rfl ?_
    refine lv_if_eq (tgt := 25) hx hb dX3_refusalOf_19 (by decide) (fun c8 => ?_) (fun c8 => ?_)
    · have hf := ip c8 hf
      refine lv_aload_n hx hb dX3_refusalOf_25 rfl (lv_at hl 0 rfl) ?_
      refine lv_iload_n hx hb dX3_refusalOf_26 rfl (lv_at hl 2 rfl) ?_
      obtain ⟨r10, hc9, hf⟩ := bd1_some hf
      refine cV (X := List.take 0 (wX3 E a n)) (Y := List.drop 37 (wX3 E a n)) (w := (wX3 E a n)) (w' := (wX3 E a n)) (q0 := 0) lk_X3_84 hx hb hml hown hE hA (c_X3_isThere l E a n p2 r10 hc9) rfl rfl hP hD hS rfl rfl ⟨rfl, rfl, Nat.le_of_ble_eq_true rfl, Nat.le_of_ble_eq_true rfl⟩ hl.1 (As := [.int p2]) (rest := []) rfl rfl (Nat.le_of_ble_eq_true rfl) ⟨Nat.zero_le _, Nat.zero_le _⟩ dX3_refusalOf_27 (fun H locs hP hD hS => ?_)
      refine W.eq (g2 := F0 m 30 ls [.int (bI r10)]) rfl ?_
      refine lv_if_eq (tgt := 37) hx hb dX3_refusalOf_30 (by decide) (fun c11 => ?_) (fun c11 => ?_)
      · have hf := ip c11 hf
        refine lv_ldc (v := (-1000000001 : Int32)) hx hb hown (hE.w tw_148) dX3_refusalOf_37 ?_
        obtain rfl := so1 hf
        exact rt_i hx hb hr hlocks hP hD hS dX3_refusalOf_39
      · have hf := im c11 hf
        refine lv_iconst (v := (0 : Int32)) hx hb dX3_refusalOf_33 (by decide) ?_
        refine lv_goto (tgt := 39) hx hb dX3_refusalOf_34 (by decide) ?_
        obtain rfl := so1 hf
        exact rt_i hx hb hr hlocks hP hD hS dX3_refusalOf_39
    · have hf := im c8 hf
      refine lv_ldc (v := (-1000000006 : Int32)) hx hb hown (hE.w tw_533) dX3_refusalOf_22 ?_
      obtain rfl := so1 hf
      exact rt_i hx hb hr hlocks hP hD hS dX3_refusalOf_24
  · have hf := ip c3 hf
    refine lv_ldc (v := (-1000000001 : Int32)) hx hb hown (hE.w tw_148) dX3_refusalOf_7 ?_
    obtain rfl := so1 hf
    exact rt_i hx hb hr hlocks hP hD hS dX3_refusalOf_9
def lp_X3_trialDoesAs_2 (k : Nat) (p2 : Int32) : Nat → (Int32) → (NS) → Option (Bool × NS)
  | 0, _, _ => none
  | k_1 + 1, v3_1, n_1 => if (g1_size ((g3_sheets n_1) k)) ≤ v3_1 then some (true, n_1) else bd1 (f_X0_deedOf (g3_trial n_1) p2) (fun r4 => gd v3_1 40 (if (r4.toInt64) = ((g1_row ((g3_sheets n_1) k)) v3_1.toNatClampNeg) then bd1 (f_X0_go (g3_trial n_1)) (fun h8 => jn1 (s3_trial n_1 h8) (fun n_9 => lp_X3_trialDoesAs_2 k p2 k_1 (v3_1 + (1 : Int32)) n_9)) else some (false, n_1)))
def f_X3_trialDoesAs (n : NS) (k : Nat) (p2 : Int32) : Option (Bool × NS) := lp_X3_trialDoesAs_2 k p2 FU (0 : Int32) n
set_option maxHeartbeats 4000000 in
set_option maxRecDepth 100000 in
theorem c_X3_trialDoesAs (l : Launch) (E : EV) (a : Nat → Nat → Nat) (n : NS) (k : Nat) (p2 : Int32) (hk : k < 4) (r : Bool) (n' : NS) (hf : f_X3_trialDoesAs n k p2 = some (r, n')) : Ct l E yX3_trialDoesAs cX3_trialDoesAs 4 ((Option.some FieldType.boolean)) (rmk 4 86) [.ref ((a 8) 0), .ref (a (4 + k) 0), .int p2] (wX3 E a n) (wX3 E a n') (some (.int (bI r))) := by
  refine Ct.of (by decide) (Nat.le_of_ble_eq_true rfl) ?_
  intro p e s m below meth c A ls hC hP hD hl
  obtain ⟨hx, hb, hr, hml, hown, hlocks, hE, hA⟩ := hC
  have hts : ∀ w ∈ tbl, w.before [.ref ((a 8) 0), .ref (a (4 + k) 0), .int p2].toArray s = true := fun w hw => hE.w hw
  have hS : va_S A s.heap s.heap [] := va_S.rf
  have hl : lv_has ls 4 [(0, .ref ((a 8) 0)), (1, .ref (a (4 + k) 0)), (2, .int p2)] := hl
  unfold f_X3_trialDoesAs at hf
  refine lv_iconst (v := (0 : Int32)) hx hb dX3_trialDoesAs_0 (by decide) ?_
  refine lv_istore_n (lv' := [(3, .int (0 : Int32)), (0, .ref ((a 8) 0)), (1, .ref (a (4 + k) 0)), (2, .int p2)]) hx hb dX3_trialDoesAs_1 rfl hl (by decide) rfl (fun ls hl => ?_)
  have L_1 : ∀ (k_1 : Nat) (v3_1 : Int32) (n_1 : NS), lp_X3_trialDoesAs_2 k p2 k_1 v3_1 n_1 = some (r, n') → ∀ (H : Heap) (locs : List Loc) (ls : Array Slot), va_P E.1 vwCl (wX3 E a n_1) H → va_D A (wX3 E a n_1) → va_S A s.heap H locs → lv_has ls 4 [(3, .int v3_1), (0, .ref ((a 8) 0)), (1, .ref (a (4 + k) 0)), (2, .int p2)] → W p l e (rmk 4 86) s m [.ref ((a 8) 0), .ref (a (4 + k) 0), .int p2].toArray below meth c H locs 0 0 (MQ below (Qct E A (wX3 E a n') (some (.int (bI r)))) [.ref ((a 8) 0), .ref (a (4 + k) 0), .int p2].toArray s 0 0 A) (F0 m 2 ls []) := by
    intro k_1
    induction k_1 with
    | zero =>
      intro v3_1 n_1 hf
      rw [lp_X3_trialDoesAs_2] at hf
      cases hf
    | succ k_1 ih_1 =>
      intro v3_1 n_1 hf H locs ls hP hD hS hl
      rw [lp_X3_trialDoesAs_2] at hf
      refine lv_iload_n hx hb dX3_trialDoesAs_2 rfl (lv_at hl 0 rfl) ?_
      refine lv_aload_n hx hb dX3_trialDoesAs_3 rfl (lv_at hl 2 rfl) ?_
      refine va_getN (D := E.1) (ci := 1) (v := .int (g1_size ((g3_sheets n_1) k))) (C := RX1) (T := TX1) (N := 3) hx hb hts inX1 hown hE.2.1 hP (28 + 2 * k) (wX3_sh E a _ hk) rfl 2 (by decide) (hE.w tw_110) (fun _ h9 => h9) rfl dX3_trialDoesAs_4 ?_
      refine lv_icmp_ge (tgt := 44) hx hb dX3_trialDoesAs_7 (by decide) (fun c2 => ?_) (fun c2 => ?_)
      · have hf := ip c2 hf
        refine lv_iconst (v := (1 : Int32)) hx hb dX3_trialDoesAs_44 (by decide) ?_
        obtain ⟨rfl, rfl⟩ := so2 hf
        exact rt_z (bI_nar _) hx hb hr hlocks hP hD hS dX3_trialDoesAs_45
      · have hf := im c2 hf
        refine lv_aload_n hx hb dX3_trialDoesAs_10 rfl (lv_at hl 1 rfl) ?_
        refine va_get (D := E.1) (ci := 3) (v := .ref ((a 1) 0)) (C := RX3) (T := TX3) (N := 7) hx hb hts inX3 hown hE.2.1 hP 0 rfl rfl 1 (by decide) (hE.w tw_120) (fun _ h9 => h9) rfl dX3_trialDoesAs_11 ?_
        refine lv_iload_n hx hb dX3_trialDoesAs_14 rfl (lv_at hl 3 rfl) ?_
        obtain ⟨r4, hc3, hf⟩ := bd1_some hf
        refine cVN (X := List.take 17 (wX3 E a n_1)) (Y := List.drop 25 (wX3 E a n_1)) (w := (wX3 E a n_1)) (w' := (wX3 E a n_1)) (q0 := 0) lk_X3_100 hx hb hml hown hE hA (c_X0_deedOf l E (a 1) (g3_trial n_1) p2 r4 hc3) rfl rfl hP hD hS rfl rfl ⟨rfl, rfl, Nat.le_of_ble_eq_true rfl, Nat.le_of_ble_eq_true rfl⟩ hl.1 (As := [.int p2]) (rest := []) rfl rfl (Nat.le_of_ble_eq_true rfl) ⟨Nat.zero_le _, Nat.zero_le _⟩ dX3_trialDoesAs_15 (fun H locs hP hD hS => ?_)
        refine W.eq (g2 := F0 m 18 ls [.int r4]) rfl ?_
        refine lv_i2l (v := (r4.toInt64)) hx hb dX3_trialDoesAs_18 rfl ?_
        refine lv_aload_n hx hb dX3_trialDoesAs_19 rfl (lv_at hl 2 rfl) ?_
        refine va_getN (D := E.1) (ci := 1) (v := .ref ((a (4 + k)) 1)) (C := RX1) (T := TX1) (N := 3) hx hb hts inX1 hown hE.2.1 hP (28 + 2 * k) (wX3_sh E a _ hk) rfl 0 (by decide) (hE.w tw_106) (fun _ h9 => h9) rfl dX3_trialDoesAs_20 ?_
        refine lv_iload_n hx hb dX3_trialDoesAs_23 rfl (lv_at hl 0 rfl) ?_
        obtain ⟨hg5, hf⟩ := gd_some hf
        refine va_lald hx hb hE.2.1 hP (29 + 2 * k) 1 (wX3_row E a _ hk) rfl hg5 dX3_trialDoesAs_24 ?_
        refine W.lcmp hx hb dX3_trialDoesAs_25 ?_
        refine lv_if_eq (tgt := 31) hx hb dX3_trialDoesAs_26 (by decide) (fun c6 => ?_) (fun c6 => ?_)
        · have c6 := (lg_cmp_eq _ _).mp c6
          have hf := ip c6 hf
          refine lv_aload_n hx hb dX3_trialDoesAs_31 rfl (lv_at hl 1 rfl) ?_
          refine va_get (D := E.1) (ci := 3) (v := .ref ((a 1) 0)) (C := RX3) (T := TX3) (N := 7) hx hb hts inX3 hown hE.2.1 hP 0 rfl rfl 1 (by decide) (hE.w tw_120) (fun _ h9 => h9) rfl dX3_trialDoesAs_32 ?_
          obtain ⟨h8, hc7, hf⟩ := bd1_some hf
          obtain ⟨n_9, en_9, hf⟩ := jn1_some hf
          refine cVN (X := List.take 17 (wX3 E a n_1)) (Y := List.drop 25 (wX3 E a n_1)) (w := (wX3 E a n_1)) (w' := (wX3 E a n_9)) (q0 := 0) lk_X3_133 hx hb hml hown hE hA (c_X0_go l E (a 1) (g3_trial n_1) h8 hc7) rfl (by rw [en_9]; rfl) hP hD hS rfl rfl ⟨rfl, rfl, Nat.le_of_ble_eq_true rfl, Nat.le_of_ble_eq_true rfl⟩ hl.1 (As := []) (rest := []) rfl rfl (Nat.le_of_ble_eq_true rfl) ⟨Nat.zero_le _, Nat.zero_le _⟩ dX3_trialDoesAs_35 (fun H locs hP hD hS => ?_)
          refine W.eq (g2 := F0 m 38 ls []) rfl ?_
          refine lv_iinc (v := (v3_1 + (1 : Int32))) (lv' := [(3, .int (v3_1 + (1 : Int32))), (0, .ref ((a 8) 0)), (1, .ref (a (4 + k) 0)), (2, .int p2)]) hx hb dX3_trialDoesAs_38 hl (k := 0) rfl rfl (by decide) rfl (fun ls hl => ?_)
          refine lv_goto (tgt := 2) hx hb dX3_trialDoesAs_41 (by decide) ?_
          exact ih_1 _ _ hf _ _ _ hP hD hS (lv_sub hl [0, 1, 2, 3] rfl)
        · have c6 := fun h => c6 ((lg_cmp_eq _ _).mpr h)
          have hf := im c6 hf
          refine lv_iconst (v := (0 : Int32)) hx hb dX3_trialDoesAs_29 (by decide) ?_
          obtain ⟨rfl, rfl⟩ := so2 hf
          exact rt_z (bI_nar _) hx hb hr hlocks hP hD hS dX3_trialDoesAs_30
  exact L_1 _ _ _ hf _ _ _ hP hD hS (lv_sub hl [0, 1, 2, 3] rfl)
def f_X3_play (n : NS) (p1 : Int32) (p2 : Int32) (p3 : Int32) : Option (Int32 × NS) := bd1 (f_X3_isIn p1 (0 : Int32) (15 : Int32)) (fun r2 => if (bI r2) = 0 then bd2 (f_X3_finding n (-1000000001 : Int32)) (fun r38 n39 => some (r38, n39)) else if p2 = 0 then bd1 (f_X3_isIn p3 (0 : Int32) (4 : Int32)) (fun r19 => if (bI r19) = 0 then if p2 = (1 : Int32) then bd1 (f_X3_isIn p3 (0 : Int32) (20 : Int32)) (fun r26 => if (bI r26) = 0 then bd2 (f_X3_finding n (-1000000001 : Int32)) (fun r29 n30 => some (r29, n30)) else gd p1 16 (gd p1 16 (jn1 (s3_house n (s0_tenses (g3_house n) (upd (g0_tenses (g3_house n)) p1.toNatClampNeg p3))) (fun n_33 => some (((g0_tenses (g3_house n)) p1.toNatClampNeg), n_33))))) else bd2 (f_X3_finding n (-1000000001 : Int32)) (fun r23 n24 => some (r23, n24)) else gd p1 16 (gd p1 16 (jn1 (s3_house n (s0_cues (g3_house n) (upd (g0_cues (g3_house n)) p1.toNatClampNeg p3))) (fun n_36 => some (((g0_cues (g3_house n)) p1.toNatClampNeg), n_36))))) else if p2 = (1 : Int32) then bd1 (f_X3_isIn p3 (0 : Int32) (20 : Int32)) (fun r10 => if (bI r10) = 0 then bd2 (f_X3_finding n (-1000000001 : Int32)) (fun r13 n14 => some (r13, n14)) else gd p1 16 (gd p1 16 (jn1 (s3_house n (s0_tenses (g3_house n) (upd (g0_tenses (g3_house n)) p1.toNatClampNeg p3))) (fun n_17 => some (((g0_tenses (g3_house n)) p1.toNatClampNeg), n_17))))) else bd2 (f_X3_finding n (-1000000001 : Int32)) (fun r7 n8 => some (r7, n8)))
set_option maxHeartbeats 4000000 in
set_option maxRecDepth 100000 in
theorem c_X3_play (l : Launch) (E : EV) (a : Nat → Nat → Nat) (n : NS) (p1 : Int32) (p2 : Int32) (p3 : Int32)  (r : Int32) (n' : NS) (hf : f_X3_play n p1 p2 p3 = some (r, n')) : Ct l E yX3_play cX3_play 5 ((Option.some FieldType.int)) (rmk 1 22) [.ref ((a 8) 0), .int p1, .int p2, .int p3] (wX3 E a n) (wX3 E a n') (some (.int r)) := by
  refine Ct.of (by decide) (Nat.le_of_ble_eq_true rfl) ?_
  intro p e s m below meth c A ls hC hP hD hl
  obtain ⟨hx, hb, hr, hml, hown, hlocks, hE, hA⟩ := hC
  have hts : ∀ w ∈ tbl, w.before [.ref ((a 8) 0), .int p1, .int p2, .int p3].toArray s = true := fun w hw => hE.w hw
  have hS : va_S A s.heap s.heap [] := va_S.rf
  have hl : lv_has ls 5 [(0, .ref ((a 8) 0)), (1, .int p1), (2, .int p2), (3, .int p3)] := hl
  unfold f_X3_play at hf
  refine lv_iload_n hx hb dX3_play_0 rfl (lv_at hl 1 rfl) ?_
  refine lv_iconst (v := (0 : Int32)) hx hb dX3_play_1 (by decide) ?_
  refine lv_bipush (v := (15 : Int32)) hx hb dX3_play_2 (by decide) ?_
  obtain ⟨r2, hc1, hf⟩ := bd1_some hf
  refine cS (X := List.take 0 (wX3 E a n)) (Y := List.drop 0 (wX3 E a n)) (w := (wX3 E a n)) (w' := (wX3 E a n)) lk_X3_44 hx hb hml hown hE hA (c_X3_isIn l E p1 (0 : Int32) (15 : Int32) r2 hc1) rfl rfl hP hD hS ⟨rfl, rfl, Nat.le_of_ble_eq_true rfl, Nat.le_of_ble_eq_true rfl⟩ hl.1 (As := [.int p1, .int (0 : Int32), .int (15 : Int32)]) (rest := []) rfl rfl (Nat.le_of_ble_eq_true rfl) ⟨Nat.zero_le _, Nat.zero_le _⟩ dX3_play_4 (fun H locs hP hD hS => ?_)
  refine W.eq (g2 := F0 m 7 ls [.int (bI r2)]) rfl ?_
  refine lv_if_ne (tgt := 17) hx hb dX3_play_7 (by decide) (fun c3 => ?_) (fun c3 => ?_)
  · have hf := im c3 hf
    refine lv_iload_n hx hb dX3_play_17 rfl (lv_at hl 2 rfl) ?_
    refine lv_if_ne (tgt := 54) hx hb dX3_play_18 (by decide) (fun c4 => ?_) (fun c4 => ?_)
    · have hf := im c4 hf
      refine lv_iload_n hx hb dX3_play_54 rfl (lv_at hl 2 rfl) ?_
      refine lv_iconst (v := (1 : Int32)) hx hb dX3_play_55 (by decide) ?_
      refine lv_icmp_ne (tgt := 93) hx hb dX3_play_56 (by decide) (fun c5 => ?_) (fun c5 => ?_)
      · have hf := im c5 hf
        refine lv_aload_n hx hb dX3_play_93 rfl (lv_at hl 0 rfl) ?_
        refine lv_ldc (v := (-1000000001 : Int32)) hx hb hown (hE.w tw_148) dX3_play_94 ?_
        obtain ⟨r7, n8, hc6, hf⟩ := bd2_some hf
        refine cV (X := List.take 0 (wX3 E a n)) (Y := List.drop 37 (wX3 E a n)) (w := (wX3 E a n)) (w' := (wX3 E a n8)) (q0 := 0) lk_X3_49 hx hb hml hown hE hA (c_X3_finding l E a n (-1000000001 : Int32) r7 n8 hc6) rfl rfl hP hD hS rfl rfl ⟨rfl, rfl, Nat.le_of_ble_eq_true rfl, Nat.le_of_ble_eq_true rfl⟩ hl.1 (As := [.int (-1000000001 : Int32)]) (rest := []) rfl rfl (Nat.le_of_ble_eq_true rfl) ⟨Nat.zero_le _, Nat.zero_le _⟩ dX3_play_96 (fun H locs hP hD hS => ?_)
        refine W.eq (g2 := F0 m 99 ls [.int r7]) rfl ?_
        obtain ⟨rfl, rfl⟩ := so2 hf
        exact rt_i hx hb hr hlocks hP hD hS dX3_play_99
      · have hf := ip c5 hf
        refine lv_iload_n hx hb dX3_play_59 rfl (lv_at hl 3 rfl) ?_
        refine lv_iconst (v := (0 : Int32)) hx hb dX3_play_60 (by decide) ?_
        refine lv_bipush (v := (20 : Int32)) hx hb dX3_play_61 (by decide) ?_
        obtain ⟨r10, hc9, hf⟩ := bd1_some hf
        refine cS (X := List.take 0 (wX3 E a n)) (Y := List.drop 0 (wX3 E a n)) (w := (wX3 E a n)) (w' := (wX3 E a n)) lk_X3_44 hx hb hml hown hE hA (c_X3_isIn l E p3 (0 : Int32) (20 : Int32) r10 hc9) rfl rfl hP hD hS ⟨rfl, rfl, Nat.le_of_ble_eq_true rfl, Nat.le_of_ble_eq_true rfl⟩ hl.1 (As := [.int p3, .int (0 : Int32), .int (20 : Int32)]) (rest := []) rfl rfl (Nat.le_of_ble_eq_true rfl) ⟨Nat.zero_le _, Nat.zero_le _⟩ dX3_play_63 (fun H locs hP hD hS => ?_)
        refine W.eq (g2 := F0 m 66 ls [.int (bI r10)]) rfl ?_
        refine lv_if_eq (tgt := 93) hx hb dX3_play_66 (by decide) (fun c11 => ?_) (fun c11 => ?_)
        · have hf := ip c11 hf
          refine lv_aload_n hx hb dX3_play_93 rfl (lv_at hl 0 rfl) ?_
          refine lv_ldc (v := (-1000000001 : Int32)) hx hb hown (hE.w tw_148) dX3_play_94 ?_
          obtain ⟨r13, n14, hc12, hf⟩ := bd2_some hf
          refine cV (X := List.take 0 (wX3 E a n)) (Y := List.drop 37 (wX3 E a n)) (w := (wX3 E a n)) (w' := (wX3 E a n14)) (q0 := 0) lk_X3_49 hx hb hml hown hE hA (c_X3_finding l E a n (-1000000001 : Int32) r13 n14 hc12) rfl rfl hP hD hS rfl rfl ⟨rfl, rfl, Nat.le_of_ble_eq_true rfl, Nat.le_of_ble_eq_true rfl⟩ hl.1 (As := [.int (-1000000001 : Int32)]) (rest := []) rfl rfl (Nat.le_of_ble_eq_true rfl) ⟨Nat.zero_le _, Nat.zero_le _⟩ dX3_play_96 (fun H locs hP hD hS => ?_)
          refine W.eq (g2 := F0 m 99 ls [.int r13]) rfl ?_
          obtain ⟨rfl, rfl⟩ := so2 hf
          exact rt_i hx hb hr hlocks hP hD hS dX3_play_99
        · have hf := im c11 hf
          refine lv_aload_n hx hb dX3_play_69 rfl (lv_at hl 0 rfl) ?_
          refine va_get (D := E.1) (ci := 3) (v := .ref ((a 0) 0)) (C := RX3) (T := TX3) (N := 7) hx hb hts inX3 hown hE.2.1 hP 0 rfl rfl 0 (by decide) (hE.w tw_119) (fun _ h9 => h9) rfl dX3_play_70 ?_
          refine va_getN (D := E.1) (ci := 0) (v := .ref ((a 0) 5)) (C := RX0) (T := TX0) (N := 10) hx hb hts inX0 hown hE.2.1 hP 9 rfl rfl 4 (by decide) (hE.w tw_37) (fun _ h9 => h9) rfl dX3_play_73 ?_
          refine lv_iload_n hx hb dX3_play_76 rfl (lv_at hl 1 rfl) ?_
          obtain ⟨hg15, hf⟩ := gd_some hf
          refine va_iald hx hb hE.2.1 hP 11 0 rfl rfl hg15 dX3_play_77 ?_
          refine lv_istore (lv' := [(4, .int ((g0_tenses (g3_house n)) p1.toNatClampNeg)), (0, .ref ((a 8) 0)), (1, .int p1), (2, .int p2), (3, .int p3)]) hx hb dX3_play_78 hl (by decide) rfl (fun ls hl => ?_)
          refine lv_aload_n hx hb dX3_play_80 rfl (lv_at hl 1 rfl) ?_
          refine va_get (D := E.1) (ci := 3) (v := .ref ((a 0) 0)) (C := RX3) (T := TX3) (N := 7) hx hb hts inX3 hown hE.2.1 hP 0 rfl rfl 0 (by decide) (hE.w tw_119) (fun _ h9 => h9) rfl dX3_play_81 ?_
          refine va_getN (D := E.1) (ci := 0) (v := .ref ((a 0) 5)) (C := RX0) (T := TX0) (N := 10) hx hb hts inX0 hown hE.2.1 hP 9 rfl rfl 4 (by decide) (hE.w tw_37) (fun _ h9 => h9) rfl dX3_play_84 ?_
          refine lv_iload_n hx hb dX3_play_87 rfl (lv_at hl 2 rfl) ?_
          refine lv_iload_n hx hb dX3_play_88 rfl (lv_at hl 4 rfl) ?_
          obtain ⟨hg16, hf⟩ := gd_some hf
          obtain ⟨n_17, en_17, hf⟩ := jn1_some hf
          refine va_iast hx hb hE.2.1 hP hD hS 11 0 rfl rfl hg16 dX3_play_89 (fun H locs hP hD hS => ?_)
          have hP : va_P E.1 vwCl (wX3 E a n_17) H := wst (by rw [en_17]; exact rfl) hP
          have hD : va_D A (wX3 E a n_17) := wsd (by rw [en_17]; exact rfl) hD
          refine lv_iload hx hb dX3_play_90 (lv_at hl 0 rfl) ?_
          obtain ⟨rfl, rfl⟩ := so2 hf
          exact rt_i hx hb hr hlocks hP hD hS dX3_play_92
    · have hf := ip c4 hf
      refine lv_iload_n hx hb dX3_play_21 rfl (lv_at hl 3 rfl) ?_
      refine lv_iconst (v := (0 : Int32)) hx hb dX3_play_22 (by decide) ?_
      refine lv_iconst (v := (4 : Int32)) hx hb dX3_play_23 (by decide) ?_
      obtain ⟨r19, hc18, hf⟩ := bd1_some hf
      refine cS (X := List.take 0 (wX3 E a n)) (Y := List.drop 0 (wX3 E a n)) (w := (wX3 E a n)) (w' := (wX3 E a n)) lk_X3_44 hx hb hml hown hE hA (c_X3_isIn l E p3 (0 : Int32) (4 : Int32) r19 hc18) rfl rfl hP hD hS ⟨rfl, rfl, Nat.le_of_ble_eq_true rfl, Nat.le_of_ble_eq_true rfl⟩ hl.1 (As := [.int p3, .int (0 : Int32), .int (4 : Int32)]) (rest := []) rfl rfl (Nat.le_of_ble_eq_true rfl) ⟨Nat.zero_le _, Nat.zero_le _⟩ dX3_play_24 (fun H locs hP hD hS => ?_)
      refine W.eq (g2 := F0 m 27 ls [.int (bI r19)]) rfl ?_
      refine lv_if_eq (tgt := 54) hx hb dX3_play_27 (by decide) (fun c20 => ?_) (fun c20 => ?_)
      · have hf := ip c20 hf
        refine lv_iload_n hx hb dX3_play_54 rfl (lv_at hl 2 rfl) ?_
        refine lv_iconst (v := (1 : Int32)) hx hb dX3_play_55 (by decide) ?_
        refine lv_icmp_ne (tgt := 93) hx hb dX3_play_56 (by decide) (fun c21 => ?_) (fun c21 => ?_)
        · have hf := im c21 hf
          refine lv_aload_n hx hb dX3_play_93 rfl (lv_at hl 0 rfl) ?_
          refine lv_ldc (v := (-1000000001 : Int32)) hx hb hown (hE.w tw_148) dX3_play_94 ?_
          obtain ⟨r23, n24, hc22, hf⟩ := bd2_some hf
          refine cV (X := List.take 0 (wX3 E a n)) (Y := List.drop 37 (wX3 E a n)) (w := (wX3 E a n)) (w' := (wX3 E a n24)) (q0 := 0) lk_X3_49 hx hb hml hown hE hA (c_X3_finding l E a n (-1000000001 : Int32) r23 n24 hc22) rfl rfl hP hD hS rfl rfl ⟨rfl, rfl, Nat.le_of_ble_eq_true rfl, Nat.le_of_ble_eq_true rfl⟩ hl.1 (As := [.int (-1000000001 : Int32)]) (rest := []) rfl rfl (Nat.le_of_ble_eq_true rfl) ⟨Nat.zero_le _, Nat.zero_le _⟩ dX3_play_96 (fun H locs hP hD hS => ?_)
          refine W.eq (g2 := F0 m 99 ls [.int r23]) rfl ?_
          obtain ⟨rfl, rfl⟩ := so2 hf
          exact rt_i hx hb hr hlocks hP hD hS dX3_play_99
        · have hf := ip c21 hf
          refine lv_iload_n hx hb dX3_play_59 rfl (lv_at hl 3 rfl) ?_
          refine lv_iconst (v := (0 : Int32)) hx hb dX3_play_60 (by decide) ?_
          refine lv_bipush (v := (20 : Int32)) hx hb dX3_play_61 (by decide) ?_
          obtain ⟨r26, hc25, hf⟩ := bd1_some hf
          refine cS (X := List.take 0 (wX3 E a n)) (Y := List.drop 0 (wX3 E a n)) (w := (wX3 E a n)) (w' := (wX3 E a n)) lk_X3_44 hx hb hml hown hE hA (c_X3_isIn l E p3 (0 : Int32) (20 : Int32) r26 hc25) rfl rfl hP hD hS ⟨rfl, rfl, Nat.le_of_ble_eq_true rfl, Nat.le_of_ble_eq_true rfl⟩ hl.1 (As := [.int p3, .int (0 : Int32), .int (20 : Int32)]) (rest := []) rfl rfl (Nat.le_of_ble_eq_true rfl) ⟨Nat.zero_le _, Nat.zero_le _⟩ dX3_play_63 (fun H locs hP hD hS => ?_)
          refine W.eq (g2 := F0 m 66 ls [.int (bI r26)]) rfl ?_
          refine lv_if_eq (tgt := 93) hx hb dX3_play_66 (by decide) (fun c27 => ?_) (fun c27 => ?_)
          · have hf := ip c27 hf
            refine lv_aload_n hx hb dX3_play_93 rfl (lv_at hl 0 rfl) ?_
            refine lv_ldc (v := (-1000000001 : Int32)) hx hb hown (hE.w tw_148) dX3_play_94 ?_
            obtain ⟨r29, n30, hc28, hf⟩ := bd2_some hf
            refine cV (X := List.take 0 (wX3 E a n)) (Y := List.drop 37 (wX3 E a n)) (w := (wX3 E a n)) (w' := (wX3 E a n30)) (q0 := 0) lk_X3_49 hx hb hml hown hE hA (c_X3_finding l E a n (-1000000001 : Int32) r29 n30 hc28) rfl rfl hP hD hS rfl rfl ⟨rfl, rfl, Nat.le_of_ble_eq_true rfl, Nat.le_of_ble_eq_true rfl⟩ hl.1 (As := [.int (-1000000001 : Int32)]) (rest := []) rfl rfl (Nat.le_of_ble_eq_true rfl) ⟨Nat.zero_le _, Nat.zero_le _⟩ dX3_play_96 (fun H locs hP hD hS => ?_)
            refine W.eq (g2 := F0 m 99 ls [.int r29]) rfl ?_
            obtain ⟨rfl, rfl⟩ := so2 hf
            exact rt_i hx hb hr hlocks hP hD hS dX3_play_99
          · have hf := im c27 hf
            refine lv_aload_n hx hb dX3_play_69 rfl (lv_at hl 0 rfl) ?_
            refine va_get (D := E.1) (ci := 3) (v := .ref ((a 0) 0)) (C := RX3) (T := TX3) (N := 7) hx hb hts inX3 hown hE.2.1 hP 0 rfl rfl 0 (by decide) (hE.w tw_119) (fun _ h9 => h9) rfl dX3_play_70 ?_
            refine va_getN (D := E.1) (ci := 0) (v := .ref ((a 0) 5)) (C := RX0) (T := TX0) (N := 10) hx hb hts inX0 hown hE.2.1 hP 9 rfl rfl 4 (by decide) (hE.w tw_37) (fun _ h9 => h9) rfl dX3_play_73 ?_
            refine lv_iload_n hx hb dX3_play_76 rfl (lv_at hl 1 rfl) ?_
            obtain ⟨hg31, hf⟩ := gd_some hf
            refine va_iald hx hb hE.2.1 hP 11 0 rfl rfl hg31 dX3_play_77 ?_
            refine lv_istore (lv' := [(4, .int ((g0_tenses (g3_house n)) p1.toNatClampNeg)), (0, .ref ((a 8) 0)), (1, .int p1), (2, .int p2), (3, .int p3)]) hx hb dX3_play_78 hl (by decide) rfl (fun ls hl => ?_)
            refine lv_aload_n hx hb dX3_play_80 rfl (lv_at hl 1 rfl) ?_
            refine va_get (D := E.1) (ci := 3) (v := .ref ((a 0) 0)) (C := RX3) (T := TX3) (N := 7) hx hb hts inX3 hown hE.2.1 hP 0 rfl rfl 0 (by decide) (hE.w tw_119) (fun _ h9 => h9) rfl dX3_play_81 ?_
            refine va_getN (D := E.1) (ci := 0) (v := .ref ((a 0) 5)) (C := RX0) (T := TX0) (N := 10) hx hb hts inX0 hown hE.2.1 hP 9 rfl rfl 4 (by decide) (hE.w tw_37) (fun _ h9 => h9) rfl dX3_play_84 ?_
            refine lv_iload_n hx hb dX3_play_87 rfl (lv_at hl 2 rfl) ?_
            refine lv_iload_n hx hb dX3_play_88 rfl (lv_at hl 4 rfl) ?_
            obtain ⟨hg32, hf⟩ := gd_some hf
            obtain ⟨n_33, en_33, hf⟩ := jn1_some hf
            refine va_iast hx hb hE.2.1 hP hD hS 11 0 rfl rfl hg32 dX3_play_89 (fun H locs hP hD hS => ?_)
            have hP : va_P E.1 vwCl (wX3 E a n_33) H := wst (by rw [en_33]; exact rfl) hP
            have hD : va_D A (wX3 E a n_33) := wsd (by rw [en_33]; exact rfl) hD
            refine lv_iload hx hb dX3_play_90 (lv_at hl 0 rfl) ?_
            obtain ⟨rfl, rfl⟩ := so2 hf
            exact rt_i hx hb hr hlocks hP hD hS dX3_play_92
      · have hf := im c20 hf
        refine lv_aload_n hx hb dX3_play_30 rfl (lv_at hl 0 rfl) ?_
        refine va_get (D := E.1) (ci := 3) (v := .ref ((a 0) 0)) (C := RX3) (T := TX3) (N := 7) hx hb hts inX3 hown hE.2.1 hP 0 rfl rfl 0 (by decide) (hE.w tw_119) (fun _ h9 => h9) rfl dX3_play_31 ?_
        refine va_getN (D := E.1) (ci := 0) (v := .ref ((a 0) 4)) (C := RX0) (T := TX0) (N := 10) hx hb hts inX0 hown hE.2.1 hP 9 rfl rfl 3 (by decide) (hE.w tw_34) (fun _ h9 => h9) rfl dX3_play_34 ?_
        refine lv_iload_n hx hb dX3_play_37 rfl (lv_at hl 1 rfl) ?_
        obtain ⟨hg34, hf⟩ := gd_some hf
        refine va_iald hx hb hE.2.1 hP 10 0 rfl rfl hg34 dX3_play_38 ?_
        refine lv_istore (lv' := [(4, .int ((g0_cues (g3_house n)) p1.toNatClampNeg)), (0, .ref ((a 8) 0)), (1, .int p1), (2, .int p2), (3, .int p3)]) hx hb dX3_play_39 hl (by decide) rfl (fun ls hl => ?_)
        refine lv_aload_n hx hb dX3_play_41 rfl (lv_at hl 1 rfl) ?_
        refine va_get (D := E.1) (ci := 3) (v := .ref ((a 0) 0)) (C := RX3) (T := TX3) (N := 7) hx hb hts inX3 hown hE.2.1 hP 0 rfl rfl 0 (by decide) (hE.w tw_119) (fun _ h9 => h9) rfl dX3_play_42 ?_
        refine va_getN (D := E.1) (ci := 0) (v := .ref ((a 0) 4)) (C := RX0) (T := TX0) (N := 10) hx hb hts inX0 hown hE.2.1 hP 9 rfl rfl 3 (by decide) (hE.w tw_34) (fun _ h9 => h9) rfl dX3_play_45 ?_
        refine lv_iload_n hx hb dX3_play_48 rfl (lv_at hl 2 rfl) ?_
        refine lv_iload_n hx hb dX3_play_49 rfl (lv_at hl 4 rfl) ?_
        obtain ⟨hg35, hf⟩ := gd_some hf
        obtain ⟨n_36, en_36, hf⟩ := jn1_some hf
        refine va_iast hx hb hE.2.1 hP hD hS 10 0 rfl rfl hg35 dX3_play_50 (fun H locs hP hD hS => ?_)
        have hP : va_P E.1 vwCl (wX3 E a n_36) H := wst (by rw [en_36]; exact rfl) hP
        have hD : va_D A (wX3 E a n_36) := wsd (by rw [en_36]; exact rfl) hD
        refine lv_iload hx hb dX3_play_51 (lv_at hl 0 rfl) ?_
        obtain ⟨rfl, rfl⟩ := so2 hf
        exact rt_i hx hb hr hlocks hP hD hS dX3_play_53
  · have hf := ip c3 hf
    refine lv_aload_n hx hb dX3_play_10 rfl (lv_at hl 0 rfl) ?_
    refine lv_ldc (v := (-1000000001 : Int32)) hx hb hown (hE.w tw_148) dX3_play_11 ?_
    obtain ⟨r38, n39, hc37, hf⟩ := bd2_some hf
    refine cV (X := List.take 0 (wX3 E a n)) (Y := List.drop 37 (wX3 E a n)) (w := (wX3 E a n)) (w' := (wX3 E a n39)) (q0 := 0) lk_X3_49 hx hb hml hown hE hA (c_X3_finding l E a n (-1000000001 : Int32) r38 n39 hc37) rfl rfl hP hD hS rfl rfl ⟨rfl, rfl, Nat.le_of_ble_eq_true rfl, Nat.le_of_ble_eq_true rfl⟩ hl.1 (As := [.int (-1000000001 : Int32)]) (rest := []) rfl rfl (Nat.le_of_ble_eq_true rfl) ⟨Nat.zero_le _, Nat.zero_le _⟩ dX3_play_13 (fun H locs hP hD hS => ?_)
    refine W.eq (g2 := F0 m 16 ls [.int r38]) rfl ?_
    obtain ⟨rfl, rfl⟩ := so2 hf
    exact rt_i hx hb hr hlocks hP hD hS dX3_play_16
def f_X3_now (n : NS) (p1 : Int32) : Option (Int32 × NS) := if p1 = (0 : Int32) then some ((g0_night (g3_house n)), n) else if p1 = (1 : Int32) then some ((g0_moment (g3_house n)), n) else if p1 = (2 : Int32) then gd (g0_moment (g3_house n)) 16 (some (((g0_cues (g3_house n)) (g0_moment (g3_house n)).toNatClampNeg), n)) else if p1 = (3 : Int32) then gd (g0_moment (g3_house n)) 16 (some (((g0_tenses (g3_house n)) (g0_moment (g3_house n)).toNatClampNeg), n)) else if p1 = (4 : Int32) then bd1 (f_X0_allNotes (g3_house n)) (fun r9 => some (((10000 : Int32) + r9), n)) else if p1 = (5 : Int32) then bd1 (f_X0_whoDoAsAsked (g3_house n)) (fun r12 => some (r12, n)) else if p1 = (6 : Int32) then bd1 (f_X0_allFresh (g3_house n)) (fun r15 => some (r15, n)) else bd2 (f_X3_finding n (-1000000001 : Int32)) (fun r17 n18 => some (r17, n18))
set_option maxHeartbeats 4000000 in
set_option maxRecDepth 100000 in
theorem c_X3_now (l : Launch) (E : EV) (a : Nat → Nat → Nat) (n : NS) (p1 : Int32)  (r : Int32) (n' : NS) (hf : f_X3_now n p1 = some (r, n')) : Ct l E yX3_now cX3_now 2 ((Option.some FieldType.int)) (rmk 4 86) [.ref ((a 8) 0), .int p1] (wX3 E a n) (wX3 E a n') (some (.int r)) := by
  refine Ct.of (by decide) (Nat.le_of_ble_eq_true rfl) ?_
  intro p e s m below meth c A ls hC hP hD hl
  obtain ⟨hx, hb, hr, hml, hown, hlocks, hE, hA⟩ := hC
  have hts : ∀ w ∈ tbl, w.before [.ref ((a 8) 0), .int p1].toArray s = true := fun w hw => hE.w hw
  have hS : va_S A s.heap s.heap [] := va_S.rf
  have hl : lv_has ls 2 [(0, .ref ((a 8) 0)), (1, .int p1)] := hl
  unfold f_X3_now at hf
  refine lv_iload_n hx hb dX3_now_0 rfl (lv_at hl 1 rfl) ?_
  by_cases c1 : p1 = (0 : Int32)
  · have hf := ip c1 hf
    refine lv_tableIn (off := 43) (tgt := 44) hx hb dX3_now_1 (by rw [c1]; decide) (by rw [c1]; decide) (by rw [c1]; rfl) (by decide) ?_
    refine lv_aload_n hx hb dX3_now_44 rfl (lv_at hl 0 rfl) ?_
    refine va_get (D := E.1) (ci := 3) (v := .ref ((a 0) 0)) (C := RX3) (T := TX3) (N := 7) hx hb hts inX3 hown hE.2.1 hP 0 rfl rfl 0 (by decide) (hE.w tw_119) (fun _ h9 => h9) rfl dX3_now_45 ?_
    refine va_getN (D := E.1) (ci := 0) (v := .int (g0_night (g3_house n))) (C := RX0) (T := TX0) (N := 10) hx hb hts inX0 hown hE.2.1 hP 9 rfl rfl 0 (by decide) (hE.w tw_27) (fun _ h9 => h9) rfl dX3_now_48 ?_
    obtain ⟨rfl, rfl⟩ := so2 hf
    exact rt_i hx hb hr hlocks hP hD hS dX3_now_51
  have hf := im c1 hf
  by_cases c2 : p1 = (1 : Int32)
  · have hf := ip c2 hf
    refine lv_tableIn (off := 51) (tgt := 52) hx hb dX3_now_1 (by rw [c2]; decide) (by rw [c2]; decide) (by rw [c2]; rfl) (by decide) ?_
    refine lv_aload_n hx hb dX3_now_52 rfl (lv_at hl 0 rfl) ?_
    refine va_get (D := E.1) (ci := 3) (v := .ref ((a 0) 0)) (C := RX3) (T := TX3) (N := 7) hx hb hts inX3 hown hE.2.1 hP 0 rfl rfl 0 (by decide) (hE.w tw_119) (fun _ h9 => h9) rfl dX3_now_53 ?_
    refine va_getN (D := E.1) (ci := 0) (v := .int (g0_moment (g3_house n))) (C := RX0) (T := TX0) (N := 10) hx hb hts inX0 hown hE.2.1 hP 9 rfl rfl 1 (by decide) (hE.w tw_29) (fun _ h9 => h9) rfl dX3_now_56 ?_
    obtain ⟨rfl, rfl⟩ := so2 hf
    exact rt_i hx hb hr hlocks hP hD hS dX3_now_59
  have hf := im c2 hf
  by_cases c3 : p1 = (2 : Int32)
  · have hf := ip c3 hf
    refine lv_tableIn (off := 59) (tgt := 60) hx hb dX3_now_1 (by rw [c3]; decide) (by rw [c3]; decide) (by rw [c3]; rfl) (by decide) ?_
    refine lv_aload_n hx hb dX3_now_60 rfl (lv_at hl 0 rfl) ?_
    refine va_get (D := E.1) (ci := 3) (v := .ref ((a 0) 0)) (C := RX3) (T := TX3) (N := 7) hx hb hts inX3 hown hE.2.1 hP 0 rfl rfl 0 (by decide) (hE.w tw_119) (fun _ h9 => h9) rfl dX3_now_61 ?_
    refine va_getN (D := E.1) (ci := 0) (v := .ref ((a 0) 4)) (C := RX0) (T := TX0) (N := 10) hx hb hts inX0 hown hE.2.1 hP 9 rfl rfl 3 (by decide) (hE.w tw_34) (fun _ h9 => h9) rfl dX3_now_64 ?_
    refine lv_aload_n hx hb dX3_now_67 rfl (lv_at hl 0 rfl) ?_
    refine va_get (D := E.1) (ci := 3) (v := .ref ((a 0) 0)) (C := RX3) (T := TX3) (N := 7) hx hb hts inX3 hown hE.2.1 hP 0 rfl rfl 0 (by decide) (hE.w tw_119) (fun _ h9 => h9) rfl dX3_now_68 ?_
    refine va_getN (D := E.1) (ci := 0) (v := .int (g0_moment (g3_house n))) (C := RX0) (T := TX0) (N := 10) hx hb hts inX0 hown hE.2.1 hP 9 rfl rfl 1 (by decide) (hE.w tw_29) (fun _ h9 => h9) rfl dX3_now_71 ?_
    obtain ⟨hg4, hf⟩ := gd_some hf
    refine va_iald hx hb hE.2.1 hP 10 0 rfl rfl hg4 dX3_now_74 ?_
    obtain ⟨rfl, rfl⟩ := so2 hf
    exact rt_i hx hb hr hlocks hP hD hS dX3_now_75
  have hf := im c3 hf
  by_cases c5 : p1 = (3 : Int32)
  · have hf := ip c5 hf
    refine lv_tableIn (off := 75) (tgt := 76) hx hb dX3_now_1 (by rw [c5]; decide) (by rw [c5]; decide) (by rw [c5]; rfl) (by decide) ?_
    refine lv_aload_n hx hb dX3_now_76 rfl (lv_at hl 0 rfl) ?_
    refine va_get (D := E.1) (ci := 3) (v := .ref ((a 0) 0)) (C := RX3) (T := TX3) (N := 7) hx hb hts inX3 hown hE.2.1 hP 0 rfl rfl 0 (by decide) (hE.w tw_119) (fun _ h9 => h9) rfl dX3_now_77 ?_
    refine va_getN (D := E.1) (ci := 0) (v := .ref ((a 0) 5)) (C := RX0) (T := TX0) (N := 10) hx hb hts inX0 hown hE.2.1 hP 9 rfl rfl 4 (by decide) (hE.w tw_37) (fun _ h9 => h9) rfl dX3_now_80 ?_
    refine lv_aload_n hx hb dX3_now_83 rfl (lv_at hl 0 rfl) ?_
    refine va_get (D := E.1) (ci := 3) (v := .ref ((a 0) 0)) (C := RX3) (T := TX3) (N := 7) hx hb hts inX3 hown hE.2.1 hP 0 rfl rfl 0 (by decide) (hE.w tw_119) (fun _ h9 => h9) rfl dX3_now_84 ?_
    refine va_getN (D := E.1) (ci := 0) (v := .int (g0_moment (g3_house n))) (C := RX0) (T := TX0) (N := 10) hx hb hts inX0 hown hE.2.1 hP 9 rfl rfl 1 (by decide) (hE.w tw_29) (fun _ h9 => h9) rfl dX3_now_87 ?_
    obtain ⟨hg6, hf⟩ := gd_some hf
    refine va_iald hx hb hE.2.1 hP 11 0 rfl rfl hg6 dX3_now_90 ?_
    obtain ⟨rfl, rfl⟩ := so2 hf
    exact rt_i hx hb hr hlocks hP hD hS dX3_now_91
  have hf := im c5 hf
  by_cases c7 : p1 = (4 : Int32)
  · have hf := ip c7 hf
    refine lv_tableIn (off := 91) (tgt := 92) hx hb dX3_now_1 (by rw [c7]; decide) (by rw [c7]; decide) (by rw [c7]; rfl) (by decide) ?_
    refine lv_sipush (v := (10000 : Int32)) hx hb dX3_now_92 (by decide) ?_
    refine lv_aload_n hx hb dX3_now_95 rfl (lv_at hl 0 rfl) ?_
    refine va_get (D := E.1) (ci := 3) (v := .ref ((a 0) 0)) (C := RX3) (T := TX3) (N := 7) hx hb hts inX3 hown hE.2.1 hP 0 rfl rfl 0 (by decide) (hE.w tw_119) (fun _ h9 => h9) rfl dX3_now_96 ?_
    obtain ⟨r9, hc8, hf⟩ := bd1_some hf
    refine cVN (X := List.take 9 (wX3 E a n)) (Y := List.drop 17 (wX3 E a n)) (w := (wX3 E a n)) (w' := (wX3 E a n)) (q0 := 0) lk_X3_66 hx hb hml hown hE hA (c_X0_allNotes l E (a 0) (g3_house n) r9 hc8) rfl rfl hP hD hS rfl rfl ⟨rfl, rfl, Nat.le_of_ble_eq_true rfl, Nat.le_of_ble_eq_true rfl⟩ hl.1 (As := []) (rest := [.int (10000 : Int32)]) rfl rfl (Nat.le_of_ble_eq_true rfl) ⟨Nat.zero_le _, Nat.zero_le _⟩ dX3_now_99 (fun H locs hP hD hS => ?_)
    refine W.eq (g2 := F0 m 102 ls [.int r9, .int (10000 : Int32)]) rfl ?_
    refine lv_iadd hx hb dX3_now_102 ?_
    obtain ⟨rfl, rfl⟩ := so2 hf
    exact rt_i hx hb hr hlocks hP hD hS dX3_now_103
  have hf := im c7 hf
  by_cases c10 : p1 = (5 : Int32)
  · have hf := ip c10 hf
    refine lv_tableIn (off := 103) (tgt := 104) hx hb dX3_now_1 (by rw [c10]; decide) (by rw [c10]; decide) (by rw [c10]; rfl) (by decide) ?_
    refine lv_aload_n hx hb dX3_now_104 rfl (lv_at hl 0 rfl) ?_
    refine va_get (D := E.1) (ci := 3) (v := .ref ((a 0) 0)) (C := RX3) (T := TX3) (N := 7) hx hb hts inX3 hown hE.2.1 hP 0 rfl rfl 0 (by decide) (hE.w tw_119) (fun _ h9 => h9) rfl dX3_now_105 ?_
    obtain ⟨r12, hc11, hf⟩ := bd1_some hf
    refine cVN (X := List.take 9 (wX3 E a n)) (Y := List.drop 17 (wX3 E a n)) (w := (wX3 E a n)) (w' := (wX3 E a n)) (q0 := 0) lk_X3_70 hx hb hml hown hE hA (c_X0_whoDoAsAsked l E (a 0) (g3_house n) r12 hc11) rfl rfl hP hD hS rfl rfl ⟨rfl, rfl, Nat.le_of_ble_eq_true rfl, Nat.le_of_ble_eq_true rfl⟩ hl.1 (As := []) (rest := []) rfl rfl (Nat.le_of_ble_eq_true rfl) ⟨Nat.zero_le _, Nat.zero_le _⟩ dX3_now_108 (fun H locs hP hD hS => ?_)
    refine W.eq (g2 := F0 m 111 ls [.int r12]) rfl ?_
    obtain ⟨rfl, rfl⟩ := so2 hf
    exact rt_i hx hb hr hlocks hP hD hS dX3_now_111
  have hf := im c10 hf
  by_cases c13 : p1 = (6 : Int32)
  · have hf := ip c13 hf
    refine lv_tableIn (off := 111) (tgt := 112) hx hb dX3_now_1 (by rw [c13]; decide) (by rw [c13]; decide) (by rw [c13]; rfl) (by decide) ?_
    refine lv_aload_n hx hb dX3_now_112 rfl (lv_at hl 0 rfl) ?_
    refine va_get (D := E.1) (ci := 3) (v := .ref ((a 0) 0)) (C := RX3) (T := TX3) (N := 7) hx hb hts inX3 hown hE.2.1 hP 0 rfl rfl 0 (by decide) (hE.w tw_119) (fun _ h9 => h9) rfl dX3_now_113 ?_
    obtain ⟨r15, hc14, hf⟩ := bd1_some hf
    refine cVN (X := List.take 9 (wX3 E a n)) (Y := List.drop 17 (wX3 E a n)) (w := (wX3 E a n)) (w' := (wX3 E a n)) (q0 := 0) lk_X3_73 hx hb hml hown hE hA (c_X0_allFresh l E (a 0) (g3_house n) r15 hc14) rfl rfl hP hD hS rfl rfl ⟨rfl, rfl, Nat.le_of_ble_eq_true rfl, Nat.le_of_ble_eq_true rfl⟩ hl.1 (As := []) (rest := []) rfl rfl (Nat.le_of_ble_eq_true rfl) ⟨Nat.zero_le _, Nat.zero_le _⟩ dX3_now_116 (fun H locs hP hD hS => ?_)
    refine W.eq (g2 := F0 m 119 ls [.int r15]) rfl ?_
    obtain ⟨rfl, rfl⟩ := so2 hf
    exact rt_i hx hb hr hlocks hP hD hS dX3_now_119
  have hf := im c13 hf
  refine lv_tableOut (tgt := 120) hx hb dX3_now_1 (by have zc1 := lv_neT c1 (a := 0) (by decide); have zc2 := lv_neT c2 (a := 1) (by decide); have zc3 := lv_neT c3 (a := 2) (by decide); have zc5 := lv_neT c5 (a := 3) (by decide); have zc7 := lv_neT c7 (a := 4) (by decide); have zc10 := lv_neT c10 (a := 5) (by decide); have zc13 := lv_neT c13 (a := 6) (by decide); omega) (by decide) ?_
  refine lv_aload_n hx hb dX3_now_120 rfl (lv_at hl 0 rfl) ?_
  refine lv_ldc (v := (-1000000001 : Int32)) hx hb hown (hE.w tw_148) dX3_now_121 ?_
  obtain ⟨r17, n18, hc16, hf⟩ := bd2_some hf
  refine cV (X := List.take 0 (wX3 E a n)) (Y := List.drop 37 (wX3 E a n)) (w := (wX3 E a n)) (w' := (wX3 E a n18)) (q0 := 0) lk_X3_49 hx hb hml hown hE hA (c_X3_finding l E a n (-1000000001 : Int32) r17 n18 hc16) rfl rfl hP hD hS rfl rfl ⟨rfl, rfl, Nat.le_of_ble_eq_true rfl, Nat.le_of_ble_eq_true rfl⟩ hl.1 (As := [.int (-1000000001 : Int32)]) (rest := []) rfl rfl (Nat.le_of_ble_eq_true rfl) ⟨Nat.zero_le _, Nat.zero_le _⟩ dX3_now_123 (fun H locs hP hD hS => ?_)
  refine W.eq (g2 := F0 m 126 ls [.int r17]) rfl ?_
  obtain ⟨rfl, rfl⟩ := so2 hf
  exact rt_i hx hb hr hlocks hP hD hS dX3_now_126
def f_X3_person (n : NS) (p1 : Int32) : Option (Int32 × NS) := bd1 (f_X3_isIn p1 (0 : Int32) (5 : Int32)) (fun r2 => if (bI r2) = 0 then bd2 (f_X3_finding n (-1000000001 : Int32)) (fun r13 n14 => some (r13, n14)) else if (g0_people (g3_house n)) < (8 : Int32) then bd2 (f_X0_seat (g3_house n) p1 (60 : Int32)) (fun r6 h7 => jn1 (s3_house n h7) (fun n_8 => some (r6, n_8))) else bd2 (f_X3_finding n (-1000000002 : Int32)) (fun r10 n11 => some (r10, n11)))
set_option maxHeartbeats 4000000 in
set_option maxRecDepth 100000 in
theorem c_X3_person (l : Launch) (E : EV) (a : Nat → Nat → Nat) (n : NS) (p1 : Int32)  (r : Int32) (n' : NS) (hf : f_X3_person n p1 = some (r, n')) : Ct l E yX3_person cX3_person 2 ((Option.some FieldType.int)) (rmk 1 23) [.ref ((a 8) 0), .int p1] (wX3 E a n) (wX3 E a n') (some (.int r)) := by
  refine Ct.of (by decide) (Nat.le_of_ble_eq_true rfl) ?_
  intro p e s m below meth c A ls hC hP hD hl
  obtain ⟨hx, hb, hr, hml, hown, hlocks, hE, hA⟩ := hC
  have hts : ∀ w ∈ tbl, w.before [.ref ((a 8) 0), .int p1].toArray s = true := fun w hw => hE.w hw
  have hS : va_S A s.heap s.heap [] := va_S.rf
  have hl : lv_has ls 2 [(0, .ref ((a 8) 0)), (1, .int p1)] := hl
  unfold f_X3_person at hf
  refine lv_iload_n hx hb dX3_person_0 rfl (lv_at hl 1 rfl) ?_
  refine lv_iconst (v := (0 : Int32)) hx hb dX3_person_1 (by decide) ?_
  refine lv_iconst (v := (5 : Int32)) hx hb dX3_person_2 (by decide) ?_
  obtain ⟨r2, hc1, hf⟩ := bd1_some hf
  refine cS (X := List.take 0 (wX3 E a n)) (Y := List.drop 0 (wX3 E a n)) (w := (wX3 E a n)) (w' := (wX3 E a n)) lk_X3_44 hx hb hml hown hE hA (c_X3_isIn l E p1 (0 : Int32) (5 : Int32) r2 hc1) rfl rfl hP hD hS ⟨rfl, rfl, Nat.le_of_ble_eq_true rfl, Nat.le_of_ble_eq_true rfl⟩ hl.1 (As := [.int p1, .int (0 : Int32), .int (5 : Int32)]) (rest := []) rfl rfl (Nat.le_of_ble_eq_true rfl) ⟨Nat.zero_le _, Nat.zero_le _⟩ dX3_person_3 (fun H locs hP hD hS => ?_)
  refine W.eq (g2 := F0 m 6 ls [.int (bI r2)]) rfl ?_
  refine lv_if_ne (tgt := 16) hx hb dX3_person_6 (by decide) (fun c3 => ?_) (fun c3 => ?_)
  · have hf := im c3 hf
    refine lv_aload_n hx hb dX3_person_16 rfl (lv_at hl 0 rfl) ?_
    refine va_get (D := E.1) (ci := 3) (v := .ref ((a 0) 0)) (C := RX3) (T := TX3) (N := 7) hx hb hts inX3 hown hE.2.1 hP 0 rfl rfl 0 (by decide) (hE.w tw_119) (fun _ h9 => h9) rfl dX3_person_17 ?_
    refine va_getN (D := E.1) (ci := 0) (v := .int (g0_people (g3_house n))) (C := RX0) (T := TX0) (N := 10) hx hb hts inX0 hown hE.2.1 hP 9 rfl rfl 2 (by decide) (hE.w tw_31) (fun _ h9 => h9) rfl dX3_person_20 ?_
    refine lv_bipush (v := (8 : Int32)) hx hb dX3_person_23 (by decide) ?_
    refine lv_icmp_lt (tgt := 35) hx hb dX3_person_25 (by decide) (fun c4 => ?_) (fun c4 => ?_)
    · have hf := ip c4 hf
      refine lv_aload_n hx hb dX3_person_35 rfl (lv_at hl 0 rfl) ?_
      refine va_get (D := E.1) (ci := 3) (v := .ref ((a 0) 0)) (C := RX3) (T := TX3) (N := 7) hx hb hts inX3 hown hE.2.1 hP 0 rfl rfl 0 (by decide) (hE.w tw_119) (fun _ h9 => h9) rfl dX3_person_36 ?_
      refine lv_iload_n hx hb dX3_person_39 rfl (lv_at hl 1 rfl) ?_
      refine lv_bipush (v := (60 : Int32)) hx hb dX3_person_40 (by decide) ?_
      obtain ⟨r6, h7, hc5, hf⟩ := bd2_some hf
      obtain ⟨n_8, en_8, hf⟩ := jn1_some hf
      refine cVN (X := List.take 9 (wX3 E a n)) (Y := List.drop 17 (wX3 E a n)) (w := (wX3 E a n)) (w' := (wX3 E a n_8)) (q0 := 0) lk_X3_80 hx hb hml hown hE hA (c_X0_seat l E (a 0) (g3_house n) p1 (60 : Int32) r6 h7 hc5) rfl (by rw [en_8]; rfl) hP hD hS rfl rfl ⟨rfl, rfl, Nat.le_of_ble_eq_true rfl, Nat.le_of_ble_eq_true rfl⟩ hl.1 (As := [.int p1, .int (60 : Int32)]) (rest := []) rfl rfl (Nat.le_of_ble_eq_true rfl) ⟨Nat.zero_le _, Nat.zero_le _⟩ dX3_person_42 (fun H locs hP hD hS => ?_)
      refine W.eq (g2 := F0 m 45 ls [.int r6]) rfl ?_
      obtain ⟨rfl, rfl⟩ := so2 hf
      exact rt_i hx hb hr hlocks hP hD hS dX3_person_45
    · have hf := im c4 hf
      refine lv_aload_n hx hb dX3_person_28 rfl (lv_at hl 0 rfl) ?_
      refine lv_ldc (v := (-1000000002 : Int32)) hx hb hown (hE.w tw_196) dX3_person_29 ?_
      obtain ⟨r10, n11, hc9, hf⟩ := bd2_some hf
      refine cV (X := List.take 0 (wX3 E a n)) (Y := List.drop 37 (wX3 E a n)) (w := (wX3 E a n)) (w' := (wX3 E a n11)) (q0 := 0) lk_X3_49 hx hb hml hown hE hA (c_X3_finding l E a n (-1000000002 : Int32) r10 n11 hc9) rfl rfl hP hD hS rfl rfl ⟨rfl, rfl, Nat.le_of_ble_eq_true rfl, Nat.le_of_ble_eq_true rfl⟩ hl.1 (As := [.int (-1000000002 : Int32)]) (rest := []) rfl rfl (Nat.le_of_ble_eq_true rfl) ⟨Nat.zero_le _, Nat.zero_le _⟩ dX3_person_31 (fun H locs hP hD hS => ?_)
      refine W.eq (g2 := F0 m 34 ls [.int r10]) rfl ?_
      obtain ⟨rfl, rfl⟩ := so2 hf
      exact rt_i hx hb hr hlocks hP hD hS dX3_person_34
  · have hf := ip c3 hf
    refine lv_aload_n hx hb dX3_person_9 rfl (lv_at hl 0 rfl) ?_
    refine lv_ldc (v := (-1000000001 : Int32)) hx hb hown (hE.w tw_148) dX3_person_10 ?_
    obtain ⟨r13, n14, hc12, hf⟩ := bd2_some hf
    refine cV (X := List.take 0 (wX3 E a n)) (Y := List.drop 37 (wX3 E a n)) (w := (wX3 E a n)) (w' := (wX3 E a n14)) (q0 := 0) lk_X3_49 hx hb hml hown hE hA (c_X3_finding l E a n (-1000000001 : Int32) r13 n14 hc12) rfl rfl hP hD hS rfl rfl ⟨rfl, rfl, Nat.le_of_ble_eq_true rfl, Nat.le_of_ble_eq_true rfl⟩ hl.1 (As := [.int (-1000000001 : Int32)]) (rest := []) rfl rfl (Nat.le_of_ble_eq_true rfl) ⟨Nat.zero_le _, Nat.zero_le _⟩ dX3_person_12 (fun H locs hP hD hS => ?_)
    refine W.eq (g2 := F0 m 15 ls [.int r13]) rfl ?_
    obtain ⟨rfl, rfl⟩ := so2 hf
    exact rt_i hx hb hr hlocks hP hD hS dX3_person_15
def f_X3_of (n : NS) (p1 : Int32) (p2 : Int32) : Option (Int32 × NS) := bd1 (f_X3_isThere n p1) (fun r2 => if (bI r2) = 0 then bd2 (f_X3_finding n (-1000000001 : Int32)) (fun r23 n24 => some (r23, n24)) else if p2 = (0 : Int32) then gd p1 8 (some (((g0_kinds (g3_house n)) p1.toNatClampNeg), n)) else if p2 = (1 : Int32) then gd p1 8 (some (((g0_freshes (g3_house n)) p1.toNatClampNeg), n)) else if p2 = (2 : Int32) then gd p1 8 (some (((10000 : Int32) + ((g0_notes (g3_house n)) p1.toNatClampNeg)), n)) else if p2 = (3 : Int32) then gd p1 8 (some (((g0_dids (g3_house n)) p1.toNatClampNeg), n)) else if p2 = (4 : Int32) then bd1 (f_X0_deedOf (g3_house n) p1) (fun r14 => some (r14, n)) else if p2 = (5 : Int32) then gd p1 8 (bd1 (f_X3_staleness ((g0_kinds (g3_house n)) p1.toNatClampNeg)) (fun r18 => some (((100 : Int32) + r18), n))) else bd2 (f_X3_finding n (-1000000001 : Int32)) (fun r20 n21 => some (r20, n21)))
set_option maxHeartbeats 4000000 in
set_option maxRecDepth 100000 in
theorem c_X3_of (l : Launch) (E : EV) (a : Nat → Nat → Nat) (n : NS) (p1 : Int32) (p2 : Int32)  (r : Int32) (n' : NS) (hf : f_X3_of n p1 p2 = some (r, n')) : Ct l E yX3_of cX3_of 3 ((Option.some FieldType.int)) (rmk 3 64) [.ref ((a 8) 0), .int p1, .int p2] (wX3 E a n) (wX3 E a n') (some (.int r)) := by
  refine Ct.of (by decide) (Nat.le_of_ble_eq_true rfl) ?_
  intro p e s m below meth c A ls hC hP hD hl
  obtain ⟨hx, hb, hr, hml, hown, hlocks, hE, hA⟩ := hC
  have hts : ∀ w ∈ tbl, w.before [.ref ((a 8) 0), .int p1, .int p2].toArray s = true := fun w hw => hE.w hw
  have hS : va_S A s.heap s.heap [] := va_S.rf
  have hl : lv_has ls 3 [(0, .ref ((a 8) 0)), (1, .int p1), (2, .int p2)] := hl
  unfold f_X3_of at hf
  refine lv_aload_n hx hb dX3_of_0 rfl (lv_at hl 0 rfl) ?_
  refine lv_iload_n hx hb dX3_of_1 rfl (lv_at hl 1 rfl) ?_
  obtain ⟨r2, hc1, hf⟩ := bd1_some hf
  refine cV (X := List.take 0 (wX3 E a n)) (Y := List.drop 37 (wX3 E a n)) (w := (wX3 E a n)) (w' := (wX3 E a n)) (q0 := 0) lk_X3_84 hx hb hml hown hE hA (c_X3_isThere l E a n p1 r2 hc1) rfl rfl hP hD hS rfl rfl ⟨rfl, rfl, Nat.le_of_ble_eq_true rfl, Nat.le_of_ble_eq_true rfl⟩ hl.1 (As := [.int p1]) (rest := []) rfl rfl (Nat.le_of_ble_eq_true rfl) ⟨Nat.zero_le _, Nat.zero_le _⟩ dX3_of_2 (fun H locs hP hD hS => ?_)
  refine W.eq (g2 := F0 m 5 ls [.int (bI r2)]) rfl ?_
  refine lv_if_ne (tgt := 15) hx hb dX3_of_5 (by decide) (fun c3 => ?_) (fun c3 => ?_)
  · have hf := im c3 hf
    refine lv_iload_n hx hb dX3_of_15 rfl (lv_at hl 2 rfl) ?_
    by_cases c4 : p2 = (0 : Int32)
    · have hf := ip c4 hf
      refine lv_tableIn (off := 40) (tgt := 56) hx hb dX3_of_16 (by rw [c4]; decide) (by rw [c4]; decide) (by rw [c4]; rfl) (by decide) ?_
      refine lv_aload_n hx hb dX3_of_56 rfl (lv_at hl 0 rfl) ?_
      refine va_get (D := E.1) (ci := 3) (v := .ref ((a 0) 0)) (C := RX3) (T := TX3) (N := 7) hx hb hts inX3 hown hE.2.1 hP 0 rfl rfl 0 (by decide) (hE.w tw_119) (fun _ h9 => h9) rfl dX3_of_57 ?_
      refine va_getN (D := E.1) (ci := 0) (v := .ref ((a 0) 6)) (C := RX0) (T := TX0) (N := 10) hx hb hts inX0 hown hE.2.1 hP 9 rfl rfl 5 (by decide) (hE.w tw_40) (fun _ h9 => h9) rfl dX3_of_60 ?_
      refine lv_iload_n hx hb dX3_of_63 rfl (lv_at hl 1 rfl) ?_
      obtain ⟨hg5, hf⟩ := gd_some hf
      refine va_iald hx hb hE.2.1 hP 12 0 rfl rfl hg5 dX3_of_64 ?_
      obtain ⟨rfl, rfl⟩ := so2 hf
      exact rt_i hx hb hr hlocks hP hD hS dX3_of_65
    have hf := im c4 hf
    by_cases c6 : p2 = (1 : Int32)
    · have hf := ip c6 hf
      refine lv_tableIn (off := 50) (tgt := 66) hx hb dX3_of_16 (by rw [c6]; decide) (by rw [c6]; decide) (by rw [c6]; rfl) (by decide) ?_
      refine lv_aload_n hx hb dX3_of_66 rfl (lv_at hl 0 rfl) ?_
      refine va_get (D := E.1) (ci := 3) (v := .ref ((a 0) 0)) (C := RX3) (T := TX3) (N := 7) hx hb hts inX3 hown hE.2.1 hP 0 rfl rfl 0 (by decide) (hE.w tw_119) (fun _ h9 => h9) rfl dX3_of_67 ?_
      refine va_getN (D := E.1) (ci := 0) (v := .ref ((a 0) 7)) (C := RX0) (T := TX0) (N := 10) hx hb hts inX0 hown hE.2.1 hP 9 rfl rfl 6 (by decide) (hE.w tw_43) (fun _ h9 => h9) rfl dX3_of_70 ?_
      refine lv_iload_n hx hb dX3_of_73 rfl (lv_at hl 1 rfl) ?_
      obtain ⟨hg7, hf⟩ := gd_some hf
      refine va_iald hx hb hE.2.1 hP 13 0 rfl rfl hg7 dX3_of_74 ?_
      obtain ⟨rfl, rfl⟩ := so2 hf
      exact rt_i hx hb hr hlocks hP hD hS dX3_of_75
    have hf := im c6 hf
    by_cases c8 : p2 = (2 : Int32)
    · have hf := ip c8 hf
      refine lv_tableIn (off := 60) (tgt := 76) hx hb dX3_of_16 (by rw [c8]; decide) (by rw [c8]; decide) (by rw [c8]; rfl) (by decide) ?_
      refine lv_sipush (v := (10000 : Int32)) hx hb dX3_of_76 (by decide) ?_
      refine lv_aload_n hx hb dX3_of_79 rfl (lv_at hl 0 rfl) ?_
      refine va_get (D := E.1) (ci := 3) (v := .ref ((a 0) 0)) (C := RX3) (T := TX3) (N := 7) hx hb hts inX3 hown hE.2.1 hP 0 rfl rfl 0 (by decide) (hE.w tw_119) (fun _ h9 => h9) rfl dX3_of_80 ?_
      refine va_getN (D := E.1) (ci := 0) (v := .ref ((a 0) 8)) (C := RX0) (T := TX0) (N := 10) hx hb hts inX0 hown hE.2.1 hP 9 rfl rfl 7 (by decide) (hE.w tw_45) (fun _ h9 => h9) rfl dX3_of_83 ?_
      refine lv_iload_n hx hb dX3_of_86 rfl (lv_at hl 1 rfl) ?_
      obtain ⟨hg9, hf⟩ := gd_some hf
      refine va_iald hx hb hE.2.1 hP 14 0 rfl rfl hg9 dX3_of_87 ?_
      refine lv_iadd hx hb dX3_of_88 ?_
      obtain ⟨rfl, rfl⟩ := so2 hf
      exact rt_i hx hb hr hlocks hP hD hS dX3_of_89
    have hf := im c8 hf
    by_cases c10 : p2 = (3 : Int32)
    · have hf := ip c10 hf
      refine lv_tableIn (off := 74) (tgt := 90) hx hb dX3_of_16 (by rw [c10]; decide) (by rw [c10]; decide) (by rw [c10]; rfl) (by decide) ?_
      refine lv_aload_n hx hb dX3_of_90 rfl (lv_at hl 0 rfl) ?_
      refine va_get (D := E.1) (ci := 3) (v := .ref ((a 0) 0)) (C := RX3) (T := TX3) (N := 7) hx hb hts inX3 hown hE.2.1 hP 0 rfl rfl 0 (by decide) (hE.w tw_119) (fun _ h9 => h9) rfl dX3_of_91 ?_
      refine va_getN (D := E.1) (ci := 0) (v := .ref ((a 0) 9)) (C := RX0) (T := TX0) (N := 10) hx hb hts inX0 hown hE.2.1 hP 9 rfl rfl 8 (by decide) (hE.w tw_47) (fun _ h9 => h9) rfl dX3_of_94 ?_
      refine lv_iload_n hx hb dX3_of_97 rfl (lv_at hl 1 rfl) ?_
      obtain ⟨hg11, hf⟩ := gd_some hf
      refine va_iald hx hb hE.2.1 hP 15 0 rfl rfl hg11 dX3_of_98 ?_
      obtain ⟨rfl, rfl⟩ := so2 hf
      exact rt_i hx hb hr hlocks hP hD hS dX3_of_99
    have hf := im c10 hf
    by_cases c12 : p2 = (4 : Int32)
    · have hf := ip c12 hf
      refine lv_tableIn (off := 84) (tgt := 100) hx hb dX3_of_16 (by rw [c12]; decide) (by rw [c12]; decide) (by rw [c12]; rfl) (by decide) ?_
      refine lv_aload_n hx hb dX3_of_100 rfl (lv_at hl 0 rfl) ?_
      refine va_get (D := E.1) (ci := 3) (v := .ref ((a 0) 0)) (C := RX3) (T := TX3) (N := 7) hx hb hts inX3 hown hE.2.1 hP 0 rfl rfl 0 (by decide) (hE.w tw_119) (fun _ h9 => h9) rfl dX3_of_101 ?_
      refine lv_iload_n hx hb dX3_of_104 rfl (lv_at hl 1 rfl) ?_
      obtain ⟨r14, hc13, hf⟩ := bd1_some hf
      refine cVN (X := List.take 9 (wX3 E a n)) (Y := List.drop 17 (wX3 E a n)) (w := (wX3 E a n)) (w' := (wX3 E a n)) (q0 := 0) lk_X3_100 hx hb hml hown hE hA (c_X0_deedOf l E (a 0) (g3_house n) p1 r14 hc13) rfl rfl hP hD hS rfl rfl ⟨rfl, rfl, Nat.le_of_ble_eq_true rfl, Nat.le_of_ble_eq_true rfl⟩ hl.1 (As := [.int p1]) (rest := []) rfl rfl (Nat.le_of_ble_eq_true rfl) ⟨Nat.zero_le _, Nat.zero_le _⟩ dX3_of_105 (fun H locs hP hD hS => ?_)
      refine W.eq (g2 := F0 m 108 ls [.int r14]) rfl ?_
      obtain ⟨rfl, rfl⟩ := so2 hf
      exact rt_i hx hb hr hlocks hP hD hS dX3_of_108
    have hf := im c12 hf
    by_cases c15 : p2 = (5 : Int32)
    · have hf := ip c15 hf
      refine lv_tableIn (off := 93) (tgt := 109) hx hb dX3_of_16 (by rw [c15]; decide) (by rw [c15]; decide) (by rw [c15]; rfl) (by decide) ?_
      refine lv_bipush (v := (100 : Int32)) hx hb dX3_of_109 (by decide) ?_
      refine lv_aload_n hx hb dX3_of_111 rfl (lv_at hl 0 rfl) ?_
      refine va_get (D := E.1) (ci := 3) (v := .ref ((a 0) 0)) (C := RX3) (T := TX3) (N := 7) hx hb hts inX3 hown hE.2.1 hP 0 rfl rfl 0 (by decide) (hE.w tw_119) (fun _ h9 => h9) rfl dX3_of_112 ?_
      refine va_getN (D := E.1) (ci := 0) (v := .ref ((a 0) 6)) (C := RX0) (T := TX0) (N := 10) hx hb hts inX0 hown hE.2.1 hP 9 rfl rfl 5 (by decide) (hE.w tw_40) (fun _ h9 => h9) rfl dX3_of_115 ?_
      refine lv_iload_n hx hb dX3_of_118 rfl (lv_at hl 1 rfl) ?_
      obtain ⟨hg16, hf⟩ := gd_some hf
      refine va_iald hx hb hE.2.1 hP 12 0 rfl rfl hg16 dX3_of_119 ?_
      obtain ⟨r18, hc17, hf⟩ := bd1_some hf
      refine cS (X := List.take 0 (wX3 E a n)) (Y := List.drop 0 (wX3 E a n)) (w := (wX3 E a n)) (w' := (wX3 E a n)) lk_X3_103 hx hb hml hown hE hA (c_X3_staleness l E ((g0_kinds (g3_house n)) p1.toNatClampNeg) r18 hc17) rfl rfl hP hD hS ⟨rfl, rfl, Nat.le_of_ble_eq_true rfl, Nat.le_of_ble_eq_true rfl⟩ hl.1 (As := [.int ((g0_kinds (g3_house n)) p1.toNatClampNeg)]) (rest := [.int (100 : Int32)]) rfl rfl (Nat.le_of_ble_eq_true rfl) ⟨Nat.zero_le _, Nat.zero_le _⟩ dX3_of_120 (fun H locs hP hD hS => ?_)
      refine W.eq (g2 := F0 m 123 ls [.int r18, .int (100 : Int32)]) rfl ?_
      refine lv_iadd hx hb dX3_of_123 ?_
      obtain ⟨rfl, rfl⟩ := so2 hf
      exact rt_i hx hb hr hlocks hP hD hS dX3_of_124
    have hf := im c15 hf
    refine lv_tableOut (tgt := 125) hx hb dX3_of_16 (by have zc4 := lv_neT c4 (a := 0) (by decide); have zc6 := lv_neT c6 (a := 1) (by decide); have zc8 := lv_neT c8 (a := 2) (by decide); have zc10 := lv_neT c10 (a := 3) (by decide); have zc12 := lv_neT c12 (a := 4) (by decide); have zc15 := lv_neT c15 (a := 5) (by decide); omega) (by decide) ?_
    refine lv_aload_n hx hb dX3_of_125 rfl (lv_at hl 0 rfl) ?_
    refine lv_ldc (v := (-1000000001 : Int32)) hx hb hown (hE.w tw_148) dX3_of_126 ?_
    obtain ⟨r20, n21, hc19, hf⟩ := bd2_some hf
    refine cV (X := List.take 0 (wX3 E a n)) (Y := List.drop 37 (wX3 E a n)) (w := (wX3 E a n)) (w' := (wX3 E a n21)) (q0 := 0) lk_X3_49 hx hb hml hown hE hA (c_X3_finding l E a n (-1000000001 : Int32) r20 n21 hc19) rfl rfl hP hD hS rfl rfl ⟨rfl, rfl, Nat.le_of_ble_eq_true rfl, Nat.le_of_ble_eq_true rfl⟩ hl.1 (As := [.int (-1000000001 : Int32)]) (rest := []) rfl rfl (Nat.le_of_ble_eq_true rfl) ⟨Nat.zero_le _, Nat.zero_le _⟩ dX3_of_128 (fun H locs hP hD hS => ?_)
    refine W.eq (g2 := F0 m 131 ls [.int r20]) rfl ?_
    obtain ⟨rfl, rfl⟩ := so2 hf
    exact rt_i hx hb hr hlocks hP hD hS dX3_of_131
  · have hf := ip c3 hf
    refine lv_aload_n hx hb dX3_of_8 rfl (lv_at hl 0 rfl) ?_
    refine lv_ldc (v := (-1000000001 : Int32)) hx hb hown (hE.w tw_148) dX3_of_9 ?_
    obtain ⟨r23, n24, hc22, hf⟩ := bd2_some hf
    refine cV (X := List.take 0 (wX3 E a n)) (Y := List.drop 37 (wX3 E a n)) (w := (wX3 E a n)) (w' := (wX3 E a n24)) (q0 := 0) lk_X3_49 hx hb hml hown hE hA (c_X3_finding l E a n (-1000000001 : Int32) r23 n24 hc22) rfl rfl hP hD hS rfl rfl ⟨rfl, rfl, Nat.le_of_ble_eq_true rfl, Nat.le_of_ble_eq_true rfl⟩ hl.1 (As := [.int (-1000000001 : Int32)]) (rest := []) rfl rfl (Nat.le_of_ble_eq_true rfl) ⟨Nat.zero_le _, Nat.zero_le _⟩ dX3_of_11 (fun H locs hP hD hS => ?_)
    refine W.eq (g2 := F0 m 14 ls [.int r23]) rfl ?_
    obtain ⟨rfl, rfl⟩ := so2 hf
    exact rt_i hx hb hr hlocks hP hD hS dX3_of_14
def f_X3_scores (n : NS) (p1 : Int32) (p2 : Int32) (p3 : Int32) : Option (Int32 × NS) := bd1 (f_X3_isThere n p1) (fun r2 => if (bI r2) = 0 then bd2 (f_X3_finding n (-1000000001 : Int32)) (fun r5 n6 => some (r5, n6)) else bd1 (f_X3_isIn p2 (0 : Int32) (4 : Int32)) (fun r8 => if (bI r8) = 0 then bd2 (f_X3_finding n (-1000000001 : Int32)) (fun r11 n12 => some (r11, n12)) else bd1 (f_X3_isIn p3 (0 : Int32) (4 : Int32)) (fun r14 => if (bI r14) = 0 then bd2 (f_X3_finding n (-1000000001 : Int32)) (fun r20 n21 => some (r20, n21)) else gd p1 8 (bd1 (f_X3_scoreFor ((g0_kinds (g3_house n)) p1.toNatClampNeg) p2 p3) (fun r18 => some (((100 : Int32) + r18), n))))))
set_option maxHeartbeats 4000000 in
set_option maxRecDepth 100000 in
theorem c_X3_scores (l : Launch) (E : EV) (a : Nat → Nat → Nat) (n : NS) (p1 : Int32) (p2 : Int32) (p3 : Int32)  (r : Int32) (n' : NS) (hf : f_X3_scores n p1 p2 p3 = some (r, n')) : Ct l E yX3_scores cX3_scores 4 ((Option.some FieldType.int)) (rmk 3 64) [.ref ((a 8) 0), .int p1, .int p2, .int p3] (wX3 E a n) (wX3 E a n') (some (.int r)) := by
  refine Ct.of (by decide) (Nat.le_of_ble_eq_true rfl) ?_
  intro p e s m below meth c A ls hC hP hD hl
  obtain ⟨hx, hb, hr, hml, hown, hlocks, hE, hA⟩ := hC
  have hts : ∀ w ∈ tbl, w.before [.ref ((a 8) 0), .int p1, .int p2, .int p3].toArray s = true := fun w hw => hE.w hw
  have hS : va_S A s.heap s.heap [] := va_S.rf
  have hl : lv_has ls 4 [(0, .ref ((a 8) 0)), (1, .int p1), (2, .int p2), (3, .int p3)] := hl
  unfold f_X3_scores at hf
  refine lv_aload_n hx hb dX3_scores_0 rfl (lv_at hl 0 rfl) ?_
  refine lv_iload_n hx hb dX3_scores_1 rfl (lv_at hl 1 rfl) ?_
  obtain ⟨r2, hc1, hf⟩ := bd1_some hf
  refine cV (X := List.take 0 (wX3 E a n)) (Y := List.drop 37 (wX3 E a n)) (w := (wX3 E a n)) (w' := (wX3 E a n)) (q0 := 0) lk_X3_84 hx hb hml hown hE hA (c_X3_isThere l E a n p1 r2 hc1) rfl rfl hP hD hS rfl rfl ⟨rfl, rfl, Nat.le_of_ble_eq_true rfl, Nat.le_of_ble_eq_true rfl⟩ hl.1 (As := [.int p1]) (rest := []) rfl rfl (Nat.le_of_ble_eq_true rfl) ⟨Nat.zero_le _, Nat.zero_le _⟩ dX3_scores_2 (fun H locs hP hD hS => ?_)
  refine W.eq (g2 := F0 m 5 ls [.int (bI r2)]) rfl ?_
  refine lv_if_eq (tgt := 26) hx hb dX3_scores_5 (by decide) (fun c3 => ?_) (fun c3 => ?_)
  · have hf := ip c3 hf
    refine lv_aload_n hx hb dX3_scores_26 rfl (lv_at hl 0 rfl) ?_
    refine lv_ldc (v := (-1000000001 : Int32)) hx hb hown (hE.w tw_148) dX3_scores_27 ?_
    obtain ⟨r5, n6, hc4, hf⟩ := bd2_some hf
    refine cV (X := List.take 0 (wX3 E a n)) (Y := List.drop 37 (wX3 E a n)) (w := (wX3 E a n)) (w' := (wX3 E a n6)) (q0 := 0) lk_X3_49 hx hb hml hown hE hA (c_X3_finding l E a n (-1000000001 : Int32) r5 n6 hc4) rfl rfl hP hD hS rfl rfl ⟨rfl, rfl, Nat.le_of_ble_eq_true rfl, Nat.le_of_ble_eq_true rfl⟩ hl.1 (As := [.int (-1000000001 : Int32)]) (rest := []) rfl rfl (Nat.le_of_ble_eq_true rfl) ⟨Nat.zero_le _, Nat.zero_le _⟩ dX3_scores_29 (fun H locs hP hD hS => ?_)
    refine W.eq (g2 := F0 m 32 ls [.int r5]) rfl ?_
    obtain ⟨rfl, rfl⟩ := so2 hf
    exact rt_i hx hb hr hlocks hP hD hS dX3_scores_32
  · have hf := im c3 hf
    refine lv_iload_n hx hb dX3_scores_8 rfl (lv_at hl 2 rfl) ?_
    refine lv_iconst (v := (0 : Int32)) hx hb dX3_scores_9 (by decide) ?_
    refine lv_iconst (v := (4 : Int32)) hx hb dX3_scores_10 (by decide) ?_
    obtain ⟨r8, hc7, hf⟩ := bd1_some hf
    refine cS (X := List.take 0 (wX3 E a n)) (Y := List.drop 0 (wX3 E a n)) (w := (wX3 E a n)) (w' := (wX3 E a n)) lk_X3_44 hx hb hml hown hE hA (c_X3_isIn l E p2 (0 : Int32) (4 : Int32) r8 hc7) rfl rfl hP hD hS ⟨rfl, rfl, Nat.le_of_ble_eq_true rfl, Nat.le_of_ble_eq_true rfl⟩ hl.1 (As := [.int p2, .int (0 : Int32), .int (4 : Int32)]) (rest := []) rfl rfl (Nat.le_of_ble_eq_true rfl) ⟨Nat.zero_le _, Nat.zero_le _⟩ dX3_scores_11 (fun H locs hP hD hS => ?_)
    refine W.eq (g2 := F0 m 14 ls [.int (bI r8)]) rfl ?_
    refine lv_if_eq (tgt := 26) hx hb dX3_scores_14 (by decide) (fun c9 => ?_) (fun c9 => ?_)
    · have hf := ip c9 hf
      refine lv_aload_n hx hb dX3_scores_26 rfl (lv_at hl 0 rfl) ?_
      refine lv_ldc (v := (-1000000001 : Int32)) hx hb hown (hE.w tw_148) dX3_scores_27 ?_
      obtain ⟨r11, n12, hc10, hf⟩ := bd2_some hf
      refine cV (X := List.take 0 (wX3 E a n)) (Y := List.drop 37 (wX3 E a n)) (w := (wX3 E a n)) (w' := (wX3 E a n12)) (q0 := 0) lk_X3_49 hx hb hml hown hE hA (c_X3_finding l E a n (-1000000001 : Int32) r11 n12 hc10) rfl rfl hP hD hS rfl rfl ⟨rfl, rfl, Nat.le_of_ble_eq_true rfl, Nat.le_of_ble_eq_true rfl⟩ hl.1 (As := [.int (-1000000001 : Int32)]) (rest := []) rfl rfl (Nat.le_of_ble_eq_true rfl) ⟨Nat.zero_le _, Nat.zero_le _⟩ dX3_scores_29 (fun H locs hP hD hS => ?_)
      refine W.eq (g2 := F0 m 32 ls [.int r11]) rfl ?_
      obtain ⟨rfl, rfl⟩ := so2 hf
      exact rt_i hx hb hr hlocks hP hD hS dX3_scores_32
    · have hf := im c9 hf
      refine lv_iload_n hx hb dX3_scores_17 rfl (lv_at hl 3 rfl) ?_
      refine lv_iconst (v := (0 : Int32)) hx hb dX3_scores_18 (by decide) ?_
      refine lv_iconst (v := (4 : Int32)) hx hb dX3_scores_19 (by decide) ?_
      obtain ⟨r14, hc13, hf⟩ := bd1_some hf
      refine cS (X := List.take 0 (wX3 E a n)) (Y := List.drop 0 (wX3 E a n)) (w := (wX3 E a n)) (w' := (wX3 E a n)) lk_X3_44 hx hb hml hown hE hA (c_X3_isIn l E p3 (0 : Int32) (4 : Int32) r14 hc13) rfl rfl hP hD hS ⟨rfl, rfl, Nat.le_of_ble_eq_true rfl, Nat.le_of_ble_eq_true rfl⟩ hl.1 (As := [.int p3, .int (0 : Int32), .int (4 : Int32)]) (rest := []) rfl rfl (Nat.le_of_ble_eq_true rfl) ⟨Nat.zero_le _, Nat.zero_le _⟩ dX3_scores_20 (fun H locs hP hD hS => ?_)
      refine W.eq (g2 := F0 m 23 ls [.int (bI r14)]) rfl ?_
      refine lv_if_ne (tgt := 33) hx hb dX3_scores_23 (by decide) (fun c15 => ?_) (fun c15 => ?_)
      · have hf := im c15 hf
        refine lv_bipush (v := (100 : Int32)) hx hb dX3_scores_33 (by decide) ?_
        refine lv_aload_n hx hb dX3_scores_35 rfl (lv_at hl 0 rfl) ?_
        refine va_get (D := E.1) (ci := 3) (v := .ref ((a 0) 0)) (C := RX3) (T := TX3) (N := 7) hx hb hts inX3 hown hE.2.1 hP 0 rfl rfl 0 (by decide) (hE.w tw_119) (fun _ h9 => h9) rfl dX3_scores_36 ?_
        refine va_getN (D := E.1) (ci := 0) (v := .ref ((a 0) 6)) (C := RX0) (T := TX0) (N := 10) hx hb hts inX0 hown hE.2.1 hP 9 rfl rfl 5 (by decide) (hE.w tw_40) (fun _ h9 => h9) rfl dX3_scores_39 ?_
        refine lv_iload_n hx hb dX3_scores_42 rfl (lv_at hl 1 rfl) ?_
        obtain ⟨hg16, hf⟩ := gd_some hf
        refine va_iald hx hb hE.2.1 hP 12 0 rfl rfl hg16 dX3_scores_43 ?_
        refine lv_iload_n hx hb dX3_scores_44 rfl (lv_at hl 2 rfl) ?_
        refine lv_iload_n hx hb dX3_scores_45 rfl (lv_at hl 3 rfl) ?_
        obtain ⟨r18, hc17, hf⟩ := bd1_some hf
        refine cS (X := List.take 0 (wX3 E a n)) (Y := List.drop 0 (wX3 E a n)) (w := (wX3 E a n)) (w' := (wX3 E a n)) lk_X3_106 hx hb hml hown hE hA (c_X3_scoreFor l E ((g0_kinds (g3_house n)) p1.toNatClampNeg) p2 p3 r18 hc17) rfl rfl hP hD hS ⟨rfl, rfl, Nat.le_of_ble_eq_true rfl, Nat.le_of_ble_eq_true rfl⟩ hl.1 (As := [.int ((g0_kinds (g3_house n)) p1.toNatClampNeg), .int p2, .int p3]) (rest := [.int (100 : Int32)]) rfl rfl (Nat.le_of_ble_eq_true rfl) ⟨Nat.zero_le _, Nat.zero_le _⟩ dX3_scores_46 (fun H locs hP hD hS => ?_)
        refine W.eq (g2 := F0 m 49 ls [.int r18, .int (100 : Int32)]) rfl ?_
        refine lv_iadd hx hb dX3_scores_49 ?_
        obtain ⟨rfl, rfl⟩ := so2 hf
        exact rt_i hx hb hr hlocks hP hD hS dX3_scores_50
      · have hf := ip c15 hf
        refine lv_aload_n hx hb dX3_scores_26 rfl (lv_at hl 0 rfl) ?_
        refine lv_ldc (v := (-1000000001 : Int32)) hx hb hown (hE.w tw_148) dX3_scores_27 ?_
        obtain ⟨r20, n21, hc19, hf⟩ := bd2_some hf
        refine cV (X := List.take 0 (wX3 E a n)) (Y := List.drop 37 (wX3 E a n)) (w := (wX3 E a n)) (w' := (wX3 E a n21)) (q0 := 0) lk_X3_49 hx hb hml hown hE hA (c_X3_finding l E a n (-1000000001 : Int32) r20 n21 hc19) rfl rfl hP hD hS rfl rfl ⟨rfl, rfl, Nat.le_of_ble_eq_true rfl, Nat.le_of_ble_eq_true rfl⟩ hl.1 (As := [.int (-1000000001 : Int32)]) (rest := []) rfl rfl (Nat.le_of_ble_eq_true rfl) ⟨Nat.zero_le _, Nat.zero_le _⟩ dX3_scores_29 (fun H locs hP hD hS => ?_)
        refine W.eq (g2 := F0 m 32 ls [.int r20]) rfl ?_
        obtain ⟨rfl, rfl⟩ := so2 hf
        exact rt_i hx hb hr hlocks hP hD hS dX3_scores_32
def f_X3_set (n : NS) (p1 : Int32) (p2 : Int32) (p3 : Int32) : Option (Int32 × NS) := bd1 (f_X3_isThere n p1) (fun r2 => if (bI r2) = 0 then bd2 (f_X3_finding n (-1000000001 : Int32)) (fun r78 n79 => some (r78, n79)) else if p2 = (1 : Int32) then bd1 (f_X3_isIn p3 (0 : Int32) (99 : Int32)) (fun r39 => if (bI r39) = 0 then if p2 = (2 : Int32) then bd1 (f_X3_isIn p3 (-9999 : Int32) (9999 : Int32)) (fun r56 => if (bI r56) = 0 then if p2 = (3 : Int32) then bd1 (f_X3_isIn p3 (0 : Int32) (4 : Int32)) (fun r63 => if (bI r63) = 0 then bd2 (f_X3_finding n (-1000000001 : Int32)) (fun r66 n67 => some (r66, n67)) else gd p1 8 (gd p1 8 (jn1 (s3_house n (s0_dids (g3_house n) (upd (g0_dids (g3_house n)) p1.toNatClampNeg p3))) (fun n_70 => some (((g0_dids (g3_house n)) p1.toNatClampNeg), n_70))))) else bd2 (f_X3_finding n (-1000000001 : Int32)) (fun r60 n61 => some (r60, n61)) else gd p1 8 (gd p1 8 (jn1 (s3_house n (s0_notes (g3_house n) (upd (g0_notes (g3_house n)) p1.toNatClampNeg p3))) (fun n_73 => some (((g0_notes (g3_house n)) p1.toNatClampNeg), n_73))))) else if p2 = (3 : Int32) then bd1 (f_X3_isIn p3 (0 : Int32) (4 : Int32)) (fun r47 => if (bI r47) = 0 then bd2 (f_X3_finding n (-1000000001 : Int32)) (fun r50 n51 => some (r50, n51)) else gd p1 8 (gd p1 8 (jn1 (s3_house n (s0_dids (g3_house n) (upd (g0_dids (g3_house n)) p1.toNatClampNeg p3))) (fun n_54 => some (((g0_dids (g3_house n)) p1.toNatClampNeg), n_54))))) else bd2 (f_X3_finding n (-1000000001 : Int32)) (fun r44 n45 => some (r44, n45)) else gd p1 8 (gd p1 8 (jn1 (s3_house n (s0_freshes (g3_house n) (upd (g0_freshes (g3_house n)) p1.toNatClampNeg p3))) (fun n_76 => some (((g0_freshes (g3_house n)) p1.toNatClampNeg), n_76))))) else if p2 = (2 : Int32) then bd1 (f_X3_isIn p3 (-9999 : Int32) (9999 : Int32)) (fun r20 => if (bI r20) = 0 then if p2 = (3 : Int32) then bd1 (f_X3_isIn p3 (0 : Int32) (4 : Int32)) (fun r27 => if (bI r27) = 0 then bd2 (f_X3_finding n (-1000000001 : Int32)) (fun r30 n31 => some (r30, n31)) else gd p1 8 (gd p1 8 (jn1 (s3_house n (s0_dids (g3_house n) (upd (g0_dids (g3_house n)) p1.toNatClampNeg p3))) (fun n_34 => some (((g0_dids (g3_house n)) p1.toNatClampNeg), n_34))))) else bd2 (f_X3_finding n (-1000000001 : Int32)) (fun r24 n25 => some (r24, n25)) else gd p1 8 (gd p1 8 (jn1 (s3_house n (s0_notes (g3_house n) (upd (g0_notes (g3_house n)) p1.toNatClampNeg p3))) (fun n_37 => some (((g0_notes (g3_house n)) p1.toNatClampNeg), n_37))))) else if p2 = (3 : Int32) then bd1 (f_X3_isIn p3 (0 : Int32) (4 : Int32)) (fun r11 => if (bI r11) = 0 then bd2 (f_X3_finding n (-1000000001 : Int32)) (fun r14 n15 => some (r14, n15)) else gd p1 8 (gd p1 8 (jn1 (s3_house n (s0_dids (g3_house n) (upd (g0_dids (g3_house n)) p1.toNatClampNeg p3))) (fun n_18 => some (((g0_dids (g3_house n)) p1.toNatClampNeg), n_18))))) else bd2 (f_X3_finding n (-1000000001 : Int32)) (fun r8 n9 => some (r8, n9)))
set_option maxHeartbeats 4000000 in
set_option maxRecDepth 100000 in
theorem c_X3_set (l : Launch) (E : EV) (a : Nat → Nat → Nat) (n : NS) (p1 : Int32) (p2 : Int32) (p3 : Int32)  (r : Int32) (n' : NS) (hf : f_X3_set n p1 p2 p3 = some (r, n')) : Ct l E yX3_set cX3_set 5 ((Option.some FieldType.int)) (rmk 2 43) [.ref ((a 8) 0), .int p1, .int p2, .int p3] (wX3 E a n) (wX3 E a n') (some (.int r)) := by
  refine Ct.of (by decide) (Nat.le_of_ble_eq_true rfl) ?_
  intro p e s m below meth c A ls hC hP hD hl
  obtain ⟨hx, hb, hr, hml, hown, hlocks, hE, hA⟩ := hC
  have hts : ∀ w ∈ tbl, w.before [.ref ((a 8) 0), .int p1, .int p2, .int p3].toArray s = true := fun w hw => hE.w hw
  have hS : va_S A s.heap s.heap [] := va_S.rf
  have hl : lv_has ls 5 [(0, .ref ((a 8) 0)), (1, .int p1), (2, .int p2), (3, .int p3)] := hl
  unfold f_X3_set at hf
  refine lv_aload_n hx hb dX3_set_0 rfl (lv_at hl 0 rfl) ?_
  refine lv_iload_n hx hb dX3_set_1 rfl (lv_at hl 1 rfl) ?_
  obtain ⟨r2, hc1, hf⟩ := bd1_some hf
  refine cV (X := List.take 0 (wX3 E a n)) (Y := List.drop 37 (wX3 E a n)) (w := (wX3 E a n)) (w' := (wX3 E a n)) (q0 := 0) lk_X3_84 hx hb hml hown hE hA (c_X3_isThere l E a n p1 r2 hc1) rfl rfl hP hD hS rfl rfl ⟨rfl, rfl, Nat.le_of_ble_eq_true rfl, Nat.le_of_ble_eq_true rfl⟩ hl.1 (As := [.int p1]) (rest := []) rfl rfl (Nat.le_of_ble_eq_true rfl) ⟨Nat.zero_le _, Nat.zero_le _⟩ dX3_set_2 (fun H locs hP hD hS => ?_)
  refine W.eq (g2 := F0 m 5 ls [.int (bI r2)]) rfl ?_
  refine lv_if_ne (tgt := 15) hx hb dX3_set_5 (by decide) (fun c3 => ?_) (fun c3 => ?_)
  · have hf := im c3 hf
    refine lv_iload_n hx hb dX3_set_15 rfl (lv_at hl 2 rfl) ?_
    refine lv_iconst (v := (1 : Int32)) hx hb dX3_set_16 (by decide) ?_
    refine lv_icmp_ne (tgt := 54) hx hb dX3_set_17 (by decide) (fun c4 => ?_) (fun c4 => ?_)
    · have hf := im c4 hf
      refine lv_iload_n hx hb dX3_set_54 rfl (lv_at hl 2 rfl) ?_
      refine lv_iconst (v := (2 : Int32)) hx hb dX3_set_55 (by decide) ?_
      refine lv_icmp_ne (tgt := 96) hx hb dX3_set_56 (by decide) (fun c5 => ?_) (fun c5 => ?_)
      · have hf := im c5 hf
        refine lv_iload_n hx hb dX3_set_96 rfl (lv_at hl 2 rfl) ?_
        refine lv_iconst (v := (3 : Int32)) hx hb dX3_set_97 (by decide) ?_
        refine lv_icmp_ne (tgt := 134) hx hb dX3_set_98 (by decide) (fun c6 => ?_) (fun c6 => ?_)
        · have hf := im c6 hf
          refine lv_aload_n hx hb dX3_set_134 rfl (lv_at hl 0 rfl) ?_
          refine lv_ldc (v := (-1000000001 : Int32)) hx hb hown (hE.w tw_148) dX3_set_135 ?_
          obtain ⟨r8, n9, hc7, hf⟩ := bd2_some hf
          refine cV (X := List.take 0 (wX3 E a n)) (Y := List.drop 37 (wX3 E a n)) (w := (wX3 E a n)) (w' := (wX3 E a n9)) (q0 := 0) lk_X3_49 hx hb hml hown hE hA (c_X3_finding l E a n (-1000000001 : Int32) r8 n9 hc7) rfl rfl hP hD hS rfl rfl ⟨rfl, rfl, Nat.le_of_ble_eq_true rfl, Nat.le_of_ble_eq_true rfl⟩ hl.1 (As := [.int (-1000000001 : Int32)]) (rest := []) rfl rfl (Nat.le_of_ble_eq_true rfl) ⟨Nat.zero_le _, Nat.zero_le _⟩ dX3_set_137 (fun H locs hP hD hS => ?_)
          refine W.eq (g2 := F0 m 140 ls [.int r8]) rfl ?_
          obtain ⟨rfl, rfl⟩ := so2 hf
          exact rt_i hx hb hr hlocks hP hD hS dX3_set_140
        · have hf := ip c6 hf
          refine lv_iload_n hx hb dX3_set_101 rfl (lv_at hl 3 rfl) ?_
          refine lv_iconst (v := (0 : Int32)) hx hb dX3_set_102 (by decide) ?_
          refine lv_iconst (v := (4 : Int32)) hx hb dX3_set_103 (by decide) ?_
          obtain ⟨r11, hc10, hf⟩ := bd1_some hf
          refine cS (X := List.take 0 (wX3 E a n)) (Y := List.drop 0 (wX3 E a n)) (w := (wX3 E a n)) (w' := (wX3 E a n)) lk_X3_44 hx hb hml hown hE hA (c_X3_isIn l E p3 (0 : Int32) (4 : Int32) r11 hc10) rfl rfl hP hD hS ⟨rfl, rfl, Nat.le_of_ble_eq_true rfl, Nat.le_of_ble_eq_true rfl⟩ hl.1 (As := [.int p3, .int (0 : Int32), .int (4 : Int32)]) (rest := []) rfl rfl (Nat.le_of_ble_eq_true rfl) ⟨Nat.zero_le _, Nat.zero_le _⟩ dX3_set_104 (fun H locs hP hD hS => ?_)
          refine W.eq (g2 := F0 m 107 ls [.int (bI r11)]) rfl ?_
          refine lv_if_eq (tgt := 134) hx hb dX3_set_107 (by decide) (fun c12 => ?_) (fun c12 => ?_)
          · have hf := ip c12 hf
            refine lv_aload_n hx hb dX3_set_134 rfl (lv_at hl 0 rfl) ?_
            refine lv_ldc (v := (-1000000001 : Int32)) hx hb hown (hE.w tw_148) dX3_set_135 ?_
            obtain ⟨r14, n15, hc13, hf⟩ := bd2_some hf
            refine cV (X := List.take 0 (wX3 E a n)) (Y := List.drop 37 (wX3 E a n)) (w := (wX3 E a n)) (w' := (wX3 E a n15)) (q0 := 0) lk_X3_49 hx hb hml hown hE hA (c_X3_finding l E a n (-1000000001 : Int32) r14 n15 hc13) rfl rfl hP hD hS rfl rfl ⟨rfl, rfl, Nat.le_of_ble_eq_true rfl, Nat.le_of_ble_eq_true rfl⟩ hl.1 (As := [.int (-1000000001 : Int32)]) (rest := []) rfl rfl (Nat.le_of_ble_eq_true rfl) ⟨Nat.zero_le _, Nat.zero_le _⟩ dX3_set_137 (fun H locs hP hD hS => ?_)
            refine W.eq (g2 := F0 m 140 ls [.int r14]) rfl ?_
            obtain ⟨rfl, rfl⟩ := so2 hf
            exact rt_i hx hb hr hlocks hP hD hS dX3_set_140
          · have hf := im c12 hf
            refine lv_aload_n hx hb dX3_set_110 rfl (lv_at hl 0 rfl) ?_
            refine va_get (D := E.1) (ci := 3) (v := .ref ((a 0) 0)) (C := RX3) (T := TX3) (N := 7) hx hb hts inX3 hown hE.2.1 hP 0 rfl rfl 0 (by decide) (hE.w tw_119) (fun _ h9 => h9) rfl dX3_set_111 ?_
            refine va_getN (D := E.1) (ci := 0) (v := .ref ((a 0) 9)) (C := RX0) (T := TX0) (N := 10) hx hb hts inX0 hown hE.2.1 hP 9 rfl rfl 8 (by decide) (hE.w tw_47) (fun _ h9 => h9) rfl dX3_set_114 ?_
            refine lv_iload_n hx hb dX3_set_117 rfl (lv_at hl 1 rfl) ?_
            obtain ⟨hg16, hf⟩ := gd_some hf
            refine va_iald hx hb hE.2.1 hP 15 0 rfl rfl hg16 dX3_set_118 ?_
            refine lv_istore (lv' := [(4, .int ((g0_dids (g3_house n)) p1.toNatClampNeg)), (0, .ref ((a 8) 0)), (1, .int p1), (2, .int p2), (3, .int p3)]) hx hb dX3_set_119 hl (by decide) rfl (fun ls hl => ?_)
            refine lv_aload_n hx hb dX3_set_121 rfl (lv_at hl 1 rfl) ?_
            refine va_get (D := E.1) (ci := 3) (v := .ref ((a 0) 0)) (C := RX3) (T := TX3) (N := 7) hx hb hts inX3 hown hE.2.1 hP 0 rfl rfl 0 (by decide) (hE.w tw_119) (fun _ h9 => h9) rfl dX3_set_122 ?_
            refine va_getN (D := E.1) (ci := 0) (v := .ref ((a 0) 9)) (C := RX0) (T := TX0) (N := 10) hx hb hts inX0 hown hE.2.1 hP 9 rfl rfl 8 (by decide) (hE.w tw_47) (fun _ h9 => h9) rfl dX3_set_125 ?_
            refine lv_iload_n hx hb dX3_set_128 rfl (lv_at hl 2 rfl) ?_
            refine lv_iload_n hx hb dX3_set_129 rfl (lv_at hl 4 rfl) ?_
            obtain ⟨hg17, hf⟩ := gd_some hf
            obtain ⟨n_18, en_18, hf⟩ := jn1_some hf
            refine va_iast hx hb hE.2.1 hP hD hS 15 0 rfl rfl hg17 dX3_set_130 (fun H locs hP hD hS => ?_)
            have hP : va_P E.1 vwCl (wX3 E a n_18) H := wst (by rw [en_18]; exact rfl) hP
            have hD : va_D A (wX3 E a n_18) := wsd (by rw [en_18]; exact rfl) hD
            refine lv_iload hx hb dX3_set_131 (lv_at hl 0 rfl) ?_
            obtain ⟨rfl, rfl⟩ := so2 hf
            exact rt_i hx hb hr hlocks hP hD hS dX3_set_133
      · have hf := ip c5 hf
        refine lv_iload_n hx hb dX3_set_59 rfl (lv_at hl 3 rfl) ?_
        refine lv_sipush (v := (-9999 : Int32)) hx hb dX3_set_60 (by decide) ?_
        refine lv_sipush (v := (9999 : Int32)) hx hb dX3_set_63 (by decide) ?_
        obtain ⟨r20, hc19, hf⟩ := bd1_some hf
        refine cS (X := List.take 0 (wX3 E a n)) (Y := List.drop 0 (wX3 E a n)) (w := (wX3 E a n)) (w' := (wX3 E a n)) lk_X3_44 hx hb hml hown hE hA (c_X3_isIn l E p3 (-9999 : Int32) (9999 : Int32) r20 hc19) rfl rfl hP hD hS ⟨rfl, rfl, Nat.le_of_ble_eq_true rfl, Nat.le_of_ble_eq_true rfl⟩ hl.1 (As := [.int p3, .int (-9999 : Int32), .int (9999 : Int32)]) (rest := []) rfl rfl (Nat.le_of_ble_eq_true rfl) ⟨Nat.zero_le _, Nat.zero_le _⟩ dX3_set_66 (fun H locs hP hD hS => ?_)
        refine W.eq (g2 := F0 m 69 ls [.int (bI r20)]) rfl ?_
        refine lv_if_eq (tgt := 96) hx hb dX3_set_69 (by decide) (fun c21 => ?_) (fun c21 => ?_)
        · have hf := ip c21 hf
          refine lv_iload_n hx hb dX3_set_96 rfl (lv_at hl 2 rfl) ?_
          refine lv_iconst (v := (3 : Int32)) hx hb dX3_set_97 (by decide) ?_
          refine lv_icmp_ne (tgt := 134) hx hb dX3_set_98 (by decide) (fun c22 => ?_) (fun c22 => ?_)
          · have hf := im c22 hf
            refine lv_aload_n hx hb dX3_set_134 rfl (lv_at hl 0 rfl) ?_
            refine lv_ldc (v := (-1000000001 : Int32)) hx hb hown (hE.w tw_148) dX3_set_135 ?_
            obtain ⟨r24, n25, hc23, hf⟩ := bd2_some hf
            refine cV (X := List.take 0 (wX3 E a n)) (Y := List.drop 37 (wX3 E a n)) (w := (wX3 E a n)) (w' := (wX3 E a n25)) (q0 := 0) lk_X3_49 hx hb hml hown hE hA (c_X3_finding l E a n (-1000000001 : Int32) r24 n25 hc23) rfl rfl hP hD hS rfl rfl ⟨rfl, rfl, Nat.le_of_ble_eq_true rfl, Nat.le_of_ble_eq_true rfl⟩ hl.1 (As := [.int (-1000000001 : Int32)]) (rest := []) rfl rfl (Nat.le_of_ble_eq_true rfl) ⟨Nat.zero_le _, Nat.zero_le _⟩ dX3_set_137 (fun H locs hP hD hS => ?_)
            refine W.eq (g2 := F0 m 140 ls [.int r24]) rfl ?_
            obtain ⟨rfl, rfl⟩ := so2 hf
            exact rt_i hx hb hr hlocks hP hD hS dX3_set_140
          · have hf := ip c22 hf
            refine lv_iload_n hx hb dX3_set_101 rfl (lv_at hl 3 rfl) ?_
            refine lv_iconst (v := (0 : Int32)) hx hb dX3_set_102 (by decide) ?_
            refine lv_iconst (v := (4 : Int32)) hx hb dX3_set_103 (by decide) ?_
            obtain ⟨r27, hc26, hf⟩ := bd1_some hf
            refine cS (X := List.take 0 (wX3 E a n)) (Y := List.drop 0 (wX3 E a n)) (w := (wX3 E a n)) (w' := (wX3 E a n)) lk_X3_44 hx hb hml hown hE hA (c_X3_isIn l E p3 (0 : Int32) (4 : Int32) r27 hc26) rfl rfl hP hD hS ⟨rfl, rfl, Nat.le_of_ble_eq_true rfl, Nat.le_of_ble_eq_true rfl⟩ hl.1 (As := [.int p3, .int (0 : Int32), .int (4 : Int32)]) (rest := []) rfl rfl (Nat.le_of_ble_eq_true rfl) ⟨Nat.zero_le _, Nat.zero_le _⟩ dX3_set_104 (fun H locs hP hD hS => ?_)
            refine W.eq (g2 := F0 m 107 ls [.int (bI r27)]) rfl ?_
            refine lv_if_eq (tgt := 134) hx hb dX3_set_107 (by decide) (fun c28 => ?_) (fun c28 => ?_)
            · have hf := ip c28 hf
              refine lv_aload_n hx hb dX3_set_134 rfl (lv_at hl 0 rfl) ?_
              refine lv_ldc (v := (-1000000001 : Int32)) hx hb hown (hE.w tw_148) dX3_set_135 ?_
              obtain ⟨r30, n31, hc29, hf⟩ := bd2_some hf
              refine cV (X := List.take 0 (wX3 E a n)) (Y := List.drop 37 (wX3 E a n)) (w := (wX3 E a n)) (w' := (wX3 E a n31)) (q0 := 0) lk_X3_49 hx hb hml hown hE hA (c_X3_finding l E a n (-1000000001 : Int32) r30 n31 hc29) rfl rfl hP hD hS rfl rfl ⟨rfl, rfl, Nat.le_of_ble_eq_true rfl, Nat.le_of_ble_eq_true rfl⟩ hl.1 (As := [.int (-1000000001 : Int32)]) (rest := []) rfl rfl (Nat.le_of_ble_eq_true rfl) ⟨Nat.zero_le _, Nat.zero_le _⟩ dX3_set_137 (fun H locs hP hD hS => ?_)
              refine W.eq (g2 := F0 m 140 ls [.int r30]) rfl ?_
              obtain ⟨rfl, rfl⟩ := so2 hf
              exact rt_i hx hb hr hlocks hP hD hS dX3_set_140
            · have hf := im c28 hf
              refine lv_aload_n hx hb dX3_set_110 rfl (lv_at hl 0 rfl) ?_
              refine va_get (D := E.1) (ci := 3) (v := .ref ((a 0) 0)) (C := RX3) (T := TX3) (N := 7) hx hb hts inX3 hown hE.2.1 hP 0 rfl rfl 0 (by decide) (hE.w tw_119) (fun _ h9 => h9) rfl dX3_set_111 ?_
              refine va_getN (D := E.1) (ci := 0) (v := .ref ((a 0) 9)) (C := RX0) (T := TX0) (N := 10) hx hb hts inX0 hown hE.2.1 hP 9 rfl rfl 8 (by decide) (hE.w tw_47) (fun _ h9 => h9) rfl dX3_set_114 ?_
              refine lv_iload_n hx hb dX3_set_117 rfl (lv_at hl 1 rfl) ?_
              obtain ⟨hg32, hf⟩ := gd_some hf
              refine va_iald hx hb hE.2.1 hP 15 0 rfl rfl hg32 dX3_set_118 ?_
              refine lv_istore (lv' := [(4, .int ((g0_dids (g3_house n)) p1.toNatClampNeg)), (0, .ref ((a 8) 0)), (1, .int p1), (2, .int p2), (3, .int p3)]) hx hb dX3_set_119 hl (by decide) rfl (fun ls hl => ?_)
              refine lv_aload_n hx hb dX3_set_121 rfl (lv_at hl 1 rfl) ?_
              refine va_get (D := E.1) (ci := 3) (v := .ref ((a 0) 0)) (C := RX3) (T := TX3) (N := 7) hx hb hts inX3 hown hE.2.1 hP 0 rfl rfl 0 (by decide) (hE.w tw_119) (fun _ h9 => h9) rfl dX3_set_122 ?_
              refine va_getN (D := E.1) (ci := 0) (v := .ref ((a 0) 9)) (C := RX0) (T := TX0) (N := 10) hx hb hts inX0 hown hE.2.1 hP 9 rfl rfl 8 (by decide) (hE.w tw_47) (fun _ h9 => h9) rfl dX3_set_125 ?_
              refine lv_iload_n hx hb dX3_set_128 rfl (lv_at hl 2 rfl) ?_
              refine lv_iload_n hx hb dX3_set_129 rfl (lv_at hl 4 rfl) ?_
              obtain ⟨hg33, hf⟩ := gd_some hf
              obtain ⟨n_34, en_34, hf⟩ := jn1_some hf
              refine va_iast hx hb hE.2.1 hP hD hS 15 0 rfl rfl hg33 dX3_set_130 (fun H locs hP hD hS => ?_)
              have hP : va_P E.1 vwCl (wX3 E a n_34) H := wst (by rw [en_34]; exact rfl) hP
              have hD : va_D A (wX3 E a n_34) := wsd (by rw [en_34]; exact rfl) hD
              refine lv_iload hx hb dX3_set_131 (lv_at hl 0 rfl) ?_
              obtain ⟨rfl, rfl⟩ := so2 hf
              exact rt_i hx hb hr hlocks hP hD hS dX3_set_133
        · have hf := im c21 hf
          refine lv_aload_n hx hb dX3_set_72 rfl (lv_at hl 0 rfl) ?_
          refine va_get (D := E.1) (ci := 3) (v := .ref ((a 0) 0)) (C := RX3) (T := TX3) (N := 7) hx hb hts inX3 hown hE.2.1 hP 0 rfl rfl 0 (by decide) (hE.w tw_119) (fun _ h9 => h9) rfl dX3_set_73 ?_
          refine va_getN (D := E.1) (ci := 0) (v := .ref ((a 0) 8)) (C := RX0) (T := TX0) (N := 10) hx hb hts inX0 hown hE.2.1 hP 9 rfl rfl 7 (by decide) (hE.w tw_45) (fun _ h9 => h9) rfl dX3_set_76 ?_
          refine lv_iload_n hx hb dX3_set_79 rfl (lv_at hl 1 rfl) ?_
          obtain ⟨hg35, hf⟩ := gd_some hf
          refine va_iald hx hb hE.2.1 hP 14 0 rfl rfl hg35 dX3_set_80 ?_
          refine lv_istore (lv' := [(4, .int ((g0_notes (g3_house n)) p1.toNatClampNeg)), (0, .ref ((a 8) 0)), (1, .int p1), (2, .int p2), (3, .int p3)]) hx hb dX3_set_81 hl (by decide) rfl (fun ls hl => ?_)
          refine lv_aload_n hx hb dX3_set_83 rfl (lv_at hl 1 rfl) ?_
          refine va_get (D := E.1) (ci := 3) (v := .ref ((a 0) 0)) (C := RX3) (T := TX3) (N := 7) hx hb hts inX3 hown hE.2.1 hP 0 rfl rfl 0 (by decide) (hE.w tw_119) (fun _ h9 => h9) rfl dX3_set_84 ?_
          refine va_getN (D := E.1) (ci := 0) (v := .ref ((a 0) 8)) (C := RX0) (T := TX0) (N := 10) hx hb hts inX0 hown hE.2.1 hP 9 rfl rfl 7 (by decide) (hE.w tw_45) (fun _ h9 => h9) rfl dX3_set_87 ?_
          refine lv_iload_n hx hb dX3_set_90 rfl (lv_at hl 2 rfl) ?_
          refine lv_iload_n hx hb dX3_set_91 rfl (lv_at hl 4 rfl) ?_
          obtain ⟨hg36, hf⟩ := gd_some hf
          obtain ⟨n_37, en_37, hf⟩ := jn1_some hf
          refine va_iast hx hb hE.2.1 hP hD hS 14 0 rfl rfl hg36 dX3_set_92 (fun H locs hP hD hS => ?_)
          have hP : va_P E.1 vwCl (wX3 E a n_37) H := wst (by rw [en_37]; exact rfl) hP
          have hD : va_D A (wX3 E a n_37) := wsd (by rw [en_37]; exact rfl) hD
          refine lv_iload hx hb dX3_set_93 (lv_at hl 0 rfl) ?_
          obtain ⟨rfl, rfl⟩ := so2 hf
          exact rt_i hx hb hr hlocks hP hD hS dX3_set_95
    · have hf := ip c4 hf
      refine lv_iload_n hx hb dX3_set_20 rfl (lv_at hl 3 rfl) ?_
      refine lv_iconst (v := (0 : Int32)) hx hb dX3_set_21 (by decide) ?_
      refine lv_bipush (v := (99 : Int32)) hx hb dX3_set_22 (by decide) ?_
      obtain ⟨r39, hc38, hf⟩ := bd1_some hf
      refine cS (X := List.take 0 (wX3 E a n)) (Y := List.drop 0 (wX3 E a n)) (w := (wX3 E a n)) (w' := (wX3 E a n)) lk_X3_44 hx hb hml hown hE hA (c_X3_isIn l E p3 (0 : Int32) (99 : Int32) r39 hc38) rfl rfl hP hD hS ⟨rfl, rfl, Nat.le_of_ble_eq_true rfl, Nat.le_of_ble_eq_true rfl⟩ hl.1 (As := [.int p3, .int (0 : Int32), .int (99 : Int32)]) (rest := []) rfl rfl (Nat.le_of_ble_eq_true rfl) ⟨Nat.zero_le _, Nat.zero_le _⟩ dX3_set_24 (fun H locs hP hD hS => ?_)
      refine W.eq (g2 := F0 m 27 ls [.int (bI r39)]) rfl ?_
      refine lv_if_eq (tgt := 54) hx hb dX3_set_27 (by decide) (fun c40 => ?_) (fun c40 => ?_)
      · have hf := ip c40 hf
        refine lv_iload_n hx hb dX3_set_54 rfl (lv_at hl 2 rfl) ?_
        refine lv_iconst (v := (2 : Int32)) hx hb dX3_set_55 (by decide) ?_
        refine lv_icmp_ne (tgt := 96) hx hb dX3_set_56 (by decide) (fun c41 => ?_) (fun c41 => ?_)
        · have hf := im c41 hf
          refine lv_iload_n hx hb dX3_set_96 rfl (lv_at hl 2 rfl) ?_
          refine lv_iconst (v := (3 : Int32)) hx hb dX3_set_97 (by decide) ?_
          refine lv_icmp_ne (tgt := 134) hx hb dX3_set_98 (by decide) (fun c42 => ?_) (fun c42 => ?_)
          · have hf := im c42 hf
            refine lv_aload_n hx hb dX3_set_134 rfl (lv_at hl 0 rfl) ?_
            refine lv_ldc (v := (-1000000001 : Int32)) hx hb hown (hE.w tw_148) dX3_set_135 ?_
            obtain ⟨r44, n45, hc43, hf⟩ := bd2_some hf
            refine cV (X := List.take 0 (wX3 E a n)) (Y := List.drop 37 (wX3 E a n)) (w := (wX3 E a n)) (w' := (wX3 E a n45)) (q0 := 0) lk_X3_49 hx hb hml hown hE hA (c_X3_finding l E a n (-1000000001 : Int32) r44 n45 hc43) rfl rfl hP hD hS rfl rfl ⟨rfl, rfl, Nat.le_of_ble_eq_true rfl, Nat.le_of_ble_eq_true rfl⟩ hl.1 (As := [.int (-1000000001 : Int32)]) (rest := []) rfl rfl (Nat.le_of_ble_eq_true rfl) ⟨Nat.zero_le _, Nat.zero_le _⟩ dX3_set_137 (fun H locs hP hD hS => ?_)
            refine W.eq (g2 := F0 m 140 ls [.int r44]) rfl ?_
            obtain ⟨rfl, rfl⟩ := so2 hf
            exact rt_i hx hb hr hlocks hP hD hS dX3_set_140
          · have hf := ip c42 hf
            refine lv_iload_n hx hb dX3_set_101 rfl (lv_at hl 3 rfl) ?_
            refine lv_iconst (v := (0 : Int32)) hx hb dX3_set_102 (by decide) ?_
            refine lv_iconst (v := (4 : Int32)) hx hb dX3_set_103 (by decide) ?_
            obtain ⟨r47, hc46, hf⟩ := bd1_some hf
            refine cS (X := List.take 0 (wX3 E a n)) (Y := List.drop 0 (wX3 E a n)) (w := (wX3 E a n)) (w' := (wX3 E a n)) lk_X3_44 hx hb hml hown hE hA (c_X3_isIn l E p3 (0 : Int32) (4 : Int32) r47 hc46) rfl rfl hP hD hS ⟨rfl, rfl, Nat.le_of_ble_eq_true rfl, Nat.le_of_ble_eq_true rfl⟩ hl.1 (As := [.int p3, .int (0 : Int32), .int (4 : Int32)]) (rest := []) rfl rfl (Nat.le_of_ble_eq_true rfl) ⟨Nat.zero_le _, Nat.zero_le _⟩ dX3_set_104 (fun H locs hP hD hS => ?_)
            refine W.eq (g2 := F0 m 107 ls [.int (bI r47)]) rfl ?_
            refine lv_if_eq (tgt := 134) hx hb dX3_set_107 (by decide) (fun c48 => ?_) (fun c48 => ?_)
            · have hf := ip c48 hf
              refine lv_aload_n hx hb dX3_set_134 rfl (lv_at hl 0 rfl) ?_
              refine lv_ldc (v := (-1000000001 : Int32)) hx hb hown (hE.w tw_148) dX3_set_135 ?_
              obtain ⟨r50, n51, hc49, hf⟩ := bd2_some hf
              refine cV (X := List.take 0 (wX3 E a n)) (Y := List.drop 37 (wX3 E a n)) (w := (wX3 E a n)) (w' := (wX3 E a n51)) (q0 := 0) lk_X3_49 hx hb hml hown hE hA (c_X3_finding l E a n (-1000000001 : Int32) r50 n51 hc49) rfl rfl hP hD hS rfl rfl ⟨rfl, rfl, Nat.le_of_ble_eq_true rfl, Nat.le_of_ble_eq_true rfl⟩ hl.1 (As := [.int (-1000000001 : Int32)]) (rest := []) rfl rfl (Nat.le_of_ble_eq_true rfl) ⟨Nat.zero_le _, Nat.zero_le _⟩ dX3_set_137 (fun H locs hP hD hS => ?_)
              refine W.eq (g2 := F0 m 140 ls [.int r50]) rfl ?_
              obtain ⟨rfl, rfl⟩ := so2 hf
              exact rt_i hx hb hr hlocks hP hD hS dX3_set_140
            · have hf := im c48 hf
              refine lv_aload_n hx hb dX3_set_110 rfl (lv_at hl 0 rfl) ?_
              refine va_get (D := E.1) (ci := 3) (v := .ref ((a 0) 0)) (C := RX3) (T := TX3) (N := 7) hx hb hts inX3 hown hE.2.1 hP 0 rfl rfl 0 (by decide) (hE.w tw_119) (fun _ h9 => h9) rfl dX3_set_111 ?_
              refine va_getN (D := E.1) (ci := 0) (v := .ref ((a 0) 9)) (C := RX0) (T := TX0) (N := 10) hx hb hts inX0 hown hE.2.1 hP 9 rfl rfl 8 (by decide) (hE.w tw_47) (fun _ h9 => h9) rfl dX3_set_114 ?_
              refine lv_iload_n hx hb dX3_set_117 rfl (lv_at hl 1 rfl) ?_
              obtain ⟨hg52, hf⟩ := gd_some hf
              refine va_iald hx hb hE.2.1 hP 15 0 rfl rfl hg52 dX3_set_118 ?_
              refine lv_istore (lv' := [(4, .int ((g0_dids (g3_house n)) p1.toNatClampNeg)), (0, .ref ((a 8) 0)), (1, .int p1), (2, .int p2), (3, .int p3)]) hx hb dX3_set_119 hl (by decide) rfl (fun ls hl => ?_)
              refine lv_aload_n hx hb dX3_set_121 rfl (lv_at hl 1 rfl) ?_
              refine va_get (D := E.1) (ci := 3) (v := .ref ((a 0) 0)) (C := RX3) (T := TX3) (N := 7) hx hb hts inX3 hown hE.2.1 hP 0 rfl rfl 0 (by decide) (hE.w tw_119) (fun _ h9 => h9) rfl dX3_set_122 ?_
              refine va_getN (D := E.1) (ci := 0) (v := .ref ((a 0) 9)) (C := RX0) (T := TX0) (N := 10) hx hb hts inX0 hown hE.2.1 hP 9 rfl rfl 8 (by decide) (hE.w tw_47) (fun _ h9 => h9) rfl dX3_set_125 ?_
              refine lv_iload_n hx hb dX3_set_128 rfl (lv_at hl 2 rfl) ?_
              refine lv_iload_n hx hb dX3_set_129 rfl (lv_at hl 4 rfl) ?_
              obtain ⟨hg53, hf⟩ := gd_some hf
              obtain ⟨n_54, en_54, hf⟩ := jn1_some hf
              refine va_iast hx hb hE.2.1 hP hD hS 15 0 rfl rfl hg53 dX3_set_130 (fun H locs hP hD hS => ?_)
              have hP : va_P E.1 vwCl (wX3 E a n_54) H := wst (by rw [en_54]; exact rfl) hP
              have hD : va_D A (wX3 E a n_54) := wsd (by rw [en_54]; exact rfl) hD
              refine lv_iload hx hb dX3_set_131 (lv_at hl 0 rfl) ?_
              obtain ⟨rfl, rfl⟩ := so2 hf
              exact rt_i hx hb hr hlocks hP hD hS dX3_set_133
        · have hf := ip c41 hf
          refine lv_iload_n hx hb dX3_set_59 rfl (lv_at hl 3 rfl) ?_
          refine lv_sipush (v := (-9999 : Int32)) hx hb dX3_set_60 (by decide) ?_
          refine lv_sipush (v := (9999 : Int32)) hx hb dX3_set_63 (by decide) ?_
          obtain ⟨r56, hc55, hf⟩ := bd1_some hf
          refine cS (X := List.take 0 (wX3 E a n)) (Y := List.drop 0 (wX3 E a n)) (w := (wX3 E a n)) (w' := (wX3 E a n)) lk_X3_44 hx hb hml hown hE hA (c_X3_isIn l E p3 (-9999 : Int32) (9999 : Int32) r56 hc55) rfl rfl hP hD hS ⟨rfl, rfl, Nat.le_of_ble_eq_true rfl, Nat.le_of_ble_eq_true rfl⟩ hl.1 (As := [.int p3, .int (-9999 : Int32), .int (9999 : Int32)]) (rest := []) rfl rfl (Nat.le_of_ble_eq_true rfl) ⟨Nat.zero_le _, Nat.zero_le _⟩ dX3_set_66 (fun H locs hP hD hS => ?_)
          refine W.eq (g2 := F0 m 69 ls [.int (bI r56)]) rfl ?_
          refine lv_if_eq (tgt := 96) hx hb dX3_set_69 (by decide) (fun c57 => ?_) (fun c57 => ?_)
          · have hf := ip c57 hf
            refine lv_iload_n hx hb dX3_set_96 rfl (lv_at hl 2 rfl) ?_
            refine lv_iconst (v := (3 : Int32)) hx hb dX3_set_97 (by decide) ?_
            refine lv_icmp_ne (tgt := 134) hx hb dX3_set_98 (by decide) (fun c58 => ?_) (fun c58 => ?_)
            · have hf := im c58 hf
              refine lv_aload_n hx hb dX3_set_134 rfl (lv_at hl 0 rfl) ?_
              refine lv_ldc (v := (-1000000001 : Int32)) hx hb hown (hE.w tw_148) dX3_set_135 ?_
              obtain ⟨r60, n61, hc59, hf⟩ := bd2_some hf
              refine cV (X := List.take 0 (wX3 E a n)) (Y := List.drop 37 (wX3 E a n)) (w := (wX3 E a n)) (w' := (wX3 E a n61)) (q0 := 0) lk_X3_49 hx hb hml hown hE hA (c_X3_finding l E a n (-1000000001 : Int32) r60 n61 hc59) rfl rfl hP hD hS rfl rfl ⟨rfl, rfl, Nat.le_of_ble_eq_true rfl, Nat.le_of_ble_eq_true rfl⟩ hl.1 (As := [.int (-1000000001 : Int32)]) (rest := []) rfl rfl (Nat.le_of_ble_eq_true rfl) ⟨Nat.zero_le _, Nat.zero_le _⟩ dX3_set_137 (fun H locs hP hD hS => ?_)
              refine W.eq (g2 := F0 m 140 ls [.int r60]) rfl ?_
              obtain ⟨rfl, rfl⟩ := so2 hf
              exact rt_i hx hb hr hlocks hP hD hS dX3_set_140
            · have hf := ip c58 hf
              refine lv_iload_n hx hb dX3_set_101 rfl (lv_at hl 3 rfl) ?_
              refine lv_iconst (v := (0 : Int32)) hx hb dX3_set_102 (by decide) ?_
              refine lv_iconst (v := (4 : Int32)) hx hb dX3_set_103 (by decide) ?_
              obtain ⟨r63, hc62, hf⟩ := bd1_some hf
              refine cS (X := List.take 0 (wX3 E a n)) (Y := List.drop 0 (wX3 E a n)) (w := (wX3 E a n)) (w' := (wX3 E a n)) lk_X3_44 hx hb hml hown hE hA (c_X3_isIn l E p3 (0 : Int32) (4 : Int32) r63 hc62) rfl rfl hP hD hS ⟨rfl, rfl, Nat.le_of_ble_eq_true rfl, Nat.le_of_ble_eq_true rfl⟩ hl.1 (As := [.int p3, .int (0 : Int32), .int (4 : Int32)]) (rest := []) rfl rfl (Nat.le_of_ble_eq_true rfl) ⟨Nat.zero_le _, Nat.zero_le _⟩ dX3_set_104 (fun H locs hP hD hS => ?_)
              refine W.eq (g2 := F0 m 107 ls [.int (bI r63)]) rfl ?_
              refine lv_if_eq (tgt := 134) hx hb dX3_set_107 (by decide) (fun c64 => ?_) (fun c64 => ?_)
              · have hf := ip c64 hf
                refine lv_aload_n hx hb dX3_set_134 rfl (lv_at hl 0 rfl) ?_
                refine lv_ldc (v := (-1000000001 : Int32)) hx hb hown (hE.w tw_148) dX3_set_135 ?_
                obtain ⟨r66, n67, hc65, hf⟩ := bd2_some hf
                refine cV (X := List.take 0 (wX3 E a n)) (Y := List.drop 37 (wX3 E a n)) (w := (wX3 E a n)) (w' := (wX3 E a n67)) (q0 := 0) lk_X3_49 hx hb hml hown hE hA (c_X3_finding l E a n (-1000000001 : Int32) r66 n67 hc65) rfl rfl hP hD hS rfl rfl ⟨rfl, rfl, Nat.le_of_ble_eq_true rfl, Nat.le_of_ble_eq_true rfl⟩ hl.1 (As := [.int (-1000000001 : Int32)]) (rest := []) rfl rfl (Nat.le_of_ble_eq_true rfl) ⟨Nat.zero_le _, Nat.zero_le _⟩ dX3_set_137 (fun H locs hP hD hS => ?_)
                refine W.eq (g2 := F0 m 140 ls [.int r66]) rfl ?_
                obtain ⟨rfl, rfl⟩ := so2 hf
                exact rt_i hx hb hr hlocks hP hD hS dX3_set_140
              · have hf := im c64 hf
                refine lv_aload_n hx hb dX3_set_110 rfl (lv_at hl 0 rfl) ?_
                refine va_get (D := E.1) (ci := 3) (v := .ref ((a 0) 0)) (C := RX3) (T := TX3) (N := 7) hx hb hts inX3 hown hE.2.1 hP 0 rfl rfl 0 (by decide) (hE.w tw_119) (fun _ h9 => h9) rfl dX3_set_111 ?_
                refine va_getN (D := E.1) (ci := 0) (v := .ref ((a 0) 9)) (C := RX0) (T := TX0) (N := 10) hx hb hts inX0 hown hE.2.1 hP 9 rfl rfl 8 (by decide) (hE.w tw_47) (fun _ h9 => h9) rfl dX3_set_114 ?_
                refine lv_iload_n hx hb dX3_set_117 rfl (lv_at hl 1 rfl) ?_
                obtain ⟨hg68, hf⟩ := gd_some hf
                refine va_iald hx hb hE.2.1 hP 15 0 rfl rfl hg68 dX3_set_118 ?_
                refine lv_istore (lv' := [(4, .int ((g0_dids (g3_house n)) p1.toNatClampNeg)), (0, .ref ((a 8) 0)), (1, .int p1), (2, .int p2), (3, .int p3)]) hx hb dX3_set_119 hl (by decide) rfl (fun ls hl => ?_)
                refine lv_aload_n hx hb dX3_set_121 rfl (lv_at hl 1 rfl) ?_
                refine va_get (D := E.1) (ci := 3) (v := .ref ((a 0) 0)) (C := RX3) (T := TX3) (N := 7) hx hb hts inX3 hown hE.2.1 hP 0 rfl rfl 0 (by decide) (hE.w tw_119) (fun _ h9 => h9) rfl dX3_set_122 ?_
                refine va_getN (D := E.1) (ci := 0) (v := .ref ((a 0) 9)) (C := RX0) (T := TX0) (N := 10) hx hb hts inX0 hown hE.2.1 hP 9 rfl rfl 8 (by decide) (hE.w tw_47) (fun _ h9 => h9) rfl dX3_set_125 ?_
                refine lv_iload_n hx hb dX3_set_128 rfl (lv_at hl 2 rfl) ?_
                refine lv_iload_n hx hb dX3_set_129 rfl (lv_at hl 4 rfl) ?_
                obtain ⟨hg69, hf⟩ := gd_some hf
                obtain ⟨n_70, en_70, hf⟩ := jn1_some hf
                refine va_iast hx hb hE.2.1 hP hD hS 15 0 rfl rfl hg69 dX3_set_130 (fun H locs hP hD hS => ?_)
                have hP : va_P E.1 vwCl (wX3 E a n_70) H := wst (by rw [en_70]; exact rfl) hP
                have hD : va_D A (wX3 E a n_70) := wsd (by rw [en_70]; exact rfl) hD
                refine lv_iload hx hb dX3_set_131 (lv_at hl 0 rfl) ?_
                obtain ⟨rfl, rfl⟩ := so2 hf
                exact rt_i hx hb hr hlocks hP hD hS dX3_set_133
          · have hf := im c57 hf
            refine lv_aload_n hx hb dX3_set_72 rfl (lv_at hl 0 rfl) ?_
            refine va_get (D := E.1) (ci := 3) (v := .ref ((a 0) 0)) (C := RX3) (T := TX3) (N := 7) hx hb hts inX3 hown hE.2.1 hP 0 rfl rfl 0 (by decide) (hE.w tw_119) (fun _ h9 => h9) rfl dX3_set_73 ?_
            refine va_getN (D := E.1) (ci := 0) (v := .ref ((a 0) 8)) (C := RX0) (T := TX0) (N := 10) hx hb hts inX0 hown hE.2.1 hP 9 rfl rfl 7 (by decide) (hE.w tw_45) (fun _ h9 => h9) rfl dX3_set_76 ?_
            refine lv_iload_n hx hb dX3_set_79 rfl (lv_at hl 1 rfl) ?_
            obtain ⟨hg71, hf⟩ := gd_some hf
            refine va_iald hx hb hE.2.1 hP 14 0 rfl rfl hg71 dX3_set_80 ?_
            refine lv_istore (lv' := [(4, .int ((g0_notes (g3_house n)) p1.toNatClampNeg)), (0, .ref ((a 8) 0)), (1, .int p1), (2, .int p2), (3, .int p3)]) hx hb dX3_set_81 hl (by decide) rfl (fun ls hl => ?_)
            refine lv_aload_n hx hb dX3_set_83 rfl (lv_at hl 1 rfl) ?_
            refine va_get (D := E.1) (ci := 3) (v := .ref ((a 0) 0)) (C := RX3) (T := TX3) (N := 7) hx hb hts inX3 hown hE.2.1 hP 0 rfl rfl 0 (by decide) (hE.w tw_119) (fun _ h9 => h9) rfl dX3_set_84 ?_
            refine va_getN (D := E.1) (ci := 0) (v := .ref ((a 0) 8)) (C := RX0) (T := TX0) (N := 10) hx hb hts inX0 hown hE.2.1 hP 9 rfl rfl 7 (by decide) (hE.w tw_45) (fun _ h9 => h9) rfl dX3_set_87 ?_
            refine lv_iload_n hx hb dX3_set_90 rfl (lv_at hl 2 rfl) ?_
            refine lv_iload_n hx hb dX3_set_91 rfl (lv_at hl 4 rfl) ?_
            obtain ⟨hg72, hf⟩ := gd_some hf
            obtain ⟨n_73, en_73, hf⟩ := jn1_some hf
            refine va_iast hx hb hE.2.1 hP hD hS 14 0 rfl rfl hg72 dX3_set_92 (fun H locs hP hD hS => ?_)
            have hP : va_P E.1 vwCl (wX3 E a n_73) H := wst (by rw [en_73]; exact rfl) hP
            have hD : va_D A (wX3 E a n_73) := wsd (by rw [en_73]; exact rfl) hD
            refine lv_iload hx hb dX3_set_93 (lv_at hl 0 rfl) ?_
            obtain ⟨rfl, rfl⟩ := so2 hf
            exact rt_i hx hb hr hlocks hP hD hS dX3_set_95
      · have hf := im c40 hf
        refine lv_aload_n hx hb dX3_set_30 rfl (lv_at hl 0 rfl) ?_
        refine va_get (D := E.1) (ci := 3) (v := .ref ((a 0) 0)) (C := RX3) (T := TX3) (N := 7) hx hb hts inX3 hown hE.2.1 hP 0 rfl rfl 0 (by decide) (hE.w tw_119) (fun _ h9 => h9) rfl dX3_set_31 ?_
        refine va_getN (D := E.1) (ci := 0) (v := .ref ((a 0) 7)) (C := RX0) (T := TX0) (N := 10) hx hb hts inX0 hown hE.2.1 hP 9 rfl rfl 6 (by decide) (hE.w tw_43) (fun _ h9 => h9) rfl dX3_set_34 ?_
        refine lv_iload_n hx hb dX3_set_37 rfl (lv_at hl 1 rfl) ?_
        obtain ⟨hg74, hf⟩ := gd_some hf
        refine va_iald hx hb hE.2.1 hP 13 0 rfl rfl hg74 dX3_set_38 ?_
        refine lv_istore (lv' := [(4, .int ((g0_freshes (g3_house n)) p1.toNatClampNeg)), (0, .ref ((a 8) 0)), (1, .int p1), (2, .int p2), (3, .int p3)]) hx hb dX3_set_39 hl (by decide) rfl (fun ls hl => ?_)
        refine lv_aload_n hx hb dX3_set_41 rfl (lv_at hl 1 rfl) ?_
        refine va_get (D := E.1) (ci := 3) (v := .ref ((a 0) 0)) (C := RX3) (T := TX3) (N := 7) hx hb hts inX3 hown hE.2.1 hP 0 rfl rfl 0 (by decide) (hE.w tw_119) (fun _ h9 => h9) rfl dX3_set_42 ?_
        refine va_getN (D := E.1) (ci := 0) (v := .ref ((a 0) 7)) (C := RX0) (T := TX0) (N := 10) hx hb hts inX0 hown hE.2.1 hP 9 rfl rfl 6 (by decide) (hE.w tw_43) (fun _ h9 => h9) rfl dX3_set_45 ?_
        refine lv_iload_n hx hb dX3_set_48 rfl (lv_at hl 2 rfl) ?_
        refine lv_iload_n hx hb dX3_set_49 rfl (lv_at hl 4 rfl) ?_
        obtain ⟨hg75, hf⟩ := gd_some hf
        obtain ⟨n_76, en_76, hf⟩ := jn1_some hf
        refine va_iast hx hb hE.2.1 hP hD hS 13 0 rfl rfl hg75 dX3_set_50 (fun H locs hP hD hS => ?_)
        have hP : va_P E.1 vwCl (wX3 E a n_76) H := wst (by rw [en_76]; exact rfl) hP
        have hD : va_D A (wX3 E a n_76) := wsd (by rw [en_76]; exact rfl) hD
        refine lv_iload hx hb dX3_set_51 (lv_at hl 0 rfl) ?_
        obtain ⟨rfl, rfl⟩ := so2 hf
        exact rt_i hx hb hr hlocks hP hD hS dX3_set_53
  · have hf := ip c3 hf
    refine lv_aload_n hx hb dX3_set_8 rfl (lv_at hl 0 rfl) ?_
    refine lv_ldc (v := (-1000000001 : Int32)) hx hb hown (hE.w tw_148) dX3_set_9 ?_
    obtain ⟨r78, n79, hc77, hf⟩ := bd2_some hf
    refine cV (X := List.take 0 (wX3 E a n)) (Y := List.drop 37 (wX3 E a n)) (w := (wX3 E a n)) (w' := (wX3 E a n79)) (q0 := 0) lk_X3_49 hx hb hml hown hE hA (c_X3_finding l E a n (-1000000001 : Int32) r78 n79 hc77) rfl rfl hP hD hS rfl rfl ⟨rfl, rfl, Nat.le_of_ble_eq_true rfl, Nat.le_of_ble_eq_true rfl⟩ hl.1 (As := [.int (-1000000001 : Int32)]) (rest := []) rfl rfl (Nat.le_of_ble_eq_true rfl) ⟨Nat.zero_le _, Nat.zero_le _⟩ dX3_set_11 (fun H locs hP hD hS => ?_)
    refine W.eq (g2 := F0 m 14 ls [.int r78]) rfl ?_
    obtain ⟨rfl, rfl⟩ := so2 hf
    exact rt_i hx hb hr hlocks hP hD hS dX3_set_14
def f_X3_turn (n : NS) (p1 : Int32) (p2 : Int32) : Option (Int32 × NS) := bd1 (f_X3_isThere n p1) (fun r2 => if (bI r2) = 0 then bd2 (f_X3_finding n (-1000000001 : Int32)) (fun r5 n6 => some (r5, n6)) else bd1 (f_X3_isIn p2 (0 : Int32) (5 : Int32)) (fun r8 => if (bI r8) = 0 then bd2 (f_X3_finding n (-1000000001 : Int32)) (fun r14 n15 => some (r14, n15)) else gd p1 8 (gd p1 8 (jn1 (s3_house n (s0_kinds (g3_house n) (upd (g0_kinds (g3_house n)) p1.toNatClampNeg p2))) (fun n_12 => some (((g0_kinds (g3_house n)) p1.toNatClampNeg), n_12))))))
set_option maxHeartbeats 4000000 in
set_option maxRecDepth 100000 in
theorem c_X3_turn (l : Launch) (E : EV) (a : Nat → Nat → Nat) (n : NS) (p1 : Int32) (p2 : Int32)  (r : Int32) (n' : NS) (hf : f_X3_turn n p1 p2 = some (r, n')) : Ct l E yX3_turn cX3_turn 4 ((Option.some FieldType.int)) (rmk 2 43) [.ref ((a 8) 0), .int p1, .int p2] (wX3 E a n) (wX3 E a n') (some (.int r)) := by
  refine Ct.of (by decide) (Nat.le_of_ble_eq_true rfl) ?_
  intro p e s m below meth c A ls hC hP hD hl
  obtain ⟨hx, hb, hr, hml, hown, hlocks, hE, hA⟩ := hC
  have hts : ∀ w ∈ tbl, w.before [.ref ((a 8) 0), .int p1, .int p2].toArray s = true := fun w hw => hE.w hw
  have hS : va_S A s.heap s.heap [] := va_S.rf
  have hl : lv_has ls 4 [(0, .ref ((a 8) 0)), (1, .int p1), (2, .int p2)] := hl
  unfold f_X3_turn at hf
  refine lv_aload_n hx hb dX3_turn_0 rfl (lv_at hl 0 rfl) ?_
  refine lv_iload_n hx hb dX3_turn_1 rfl (lv_at hl 1 rfl) ?_
  obtain ⟨r2, hc1, hf⟩ := bd1_some hf
  refine cV (X := List.take 0 (wX3 E a n)) (Y := List.drop 37 (wX3 E a n)) (w := (wX3 E a n)) (w' := (wX3 E a n)) (q0 := 0) lk_X3_84 hx hb hml hown hE hA (c_X3_isThere l E a n p1 r2 hc1) rfl rfl hP hD hS rfl rfl ⟨rfl, rfl, Nat.le_of_ble_eq_true rfl, Nat.le_of_ble_eq_true rfl⟩ hl.1 (As := [.int p1]) (rest := []) rfl rfl (Nat.le_of_ble_eq_true rfl) ⟨Nat.zero_le _, Nat.zero_le _⟩ dX3_turn_2 (fun H locs hP hD hS => ?_)
  refine W.eq (g2 := F0 m 5 ls [.int (bI r2)]) rfl ?_
  refine lv_if_eq (tgt := 17) hx hb dX3_turn_5 (by decide) (fun c3 => ?_) (fun c3 => ?_)
  · have hf := ip c3 hf
    refine lv_aload_n hx hb dX3_turn_17 rfl (lv_at hl 0 rfl) ?_
    refine lv_ldc (v := (-1000000001 : Int32)) hx hb hown (hE.w tw_148) dX3_turn_18 ?_
    obtain ⟨r5, n6, hc4, hf⟩ := bd2_some hf
    refine cV (X := List.take 0 (wX3 E a n)) (Y := List.drop 37 (wX3 E a n)) (w := (wX3 E a n)) (w' := (wX3 E a n6)) (q0 := 0) lk_X3_49 hx hb hml hown hE hA (c_X3_finding l E a n (-1000000001 : Int32) r5 n6 hc4) rfl rfl hP hD hS rfl rfl ⟨rfl, rfl, Nat.le_of_ble_eq_true rfl, Nat.le_of_ble_eq_true rfl⟩ hl.1 (As := [.int (-1000000001 : Int32)]) (rest := []) rfl rfl (Nat.le_of_ble_eq_true rfl) ⟨Nat.zero_le _, Nat.zero_le _⟩ dX3_turn_20 (fun H locs hP hD hS => ?_)
    refine W.eq (g2 := F0 m 23 ls [.int r5]) rfl ?_
    obtain ⟨rfl, rfl⟩ := so2 hf
    exact rt_i hx hb hr hlocks hP hD hS dX3_turn_23
  · have hf := im c3 hf
    refine lv_iload_n hx hb dX3_turn_8 rfl (lv_at hl 2 rfl) ?_
    refine lv_iconst (v := (0 : Int32)) hx hb dX3_turn_9 (by decide) ?_
    refine lv_iconst (v := (5 : Int32)) hx hb dX3_turn_10 (by decide) ?_
    obtain ⟨r8, hc7, hf⟩ := bd1_some hf
    refine cS (X := List.take 0 (wX3 E a n)) (Y := List.drop 0 (wX3 E a n)) (w := (wX3 E a n)) (w' := (wX3 E a n)) lk_X3_44 hx hb hml hown hE hA (c_X3_isIn l E p2 (0 : Int32) (5 : Int32) r8 hc7) rfl rfl hP hD hS ⟨rfl, rfl, Nat.le_of_ble_eq_true rfl, Nat.le_of_ble_eq_true rfl⟩ hl.1 (As := [.int p2, .int (0 : Int32), .int (5 : Int32)]) (rest := []) rfl rfl (Nat.le_of_ble_eq_true rfl) ⟨Nat.zero_le _, Nat.zero_le _⟩ dX3_turn_11 (fun H locs hP hD hS => ?_)
    refine W.eq (g2 := F0 m 14 ls [.int (bI r8)]) rfl ?_
    refine lv_if_ne (tgt := 24) hx hb dX3_turn_14 (by decide) (fun c9 => ?_) (fun c9 => ?_)
    · have hf := im c9 hf
      refine lv_aload_n hx hb dX3_turn_24 rfl (lv_at hl 0 rfl) ?_
      refine va_get (D := E.1) (ci := 3) (v := .ref ((a 0) 0)) (C := RX3) (T := TX3) (N := 7) hx hb hts inX3 hown hE.2.1 hP 0 rfl rfl 0 (by decide) (hE.w tw_119) (fun _ h9 => h9) rfl dX3_turn_25 ?_
      refine va_getN (D := E.1) (ci := 0) (v := .ref ((a 0) 6)) (C := RX0) (T := TX0) (N := 10) hx hb hts inX0 hown hE.2.1 hP 9 rfl rfl 5 (by decide) (hE.w tw_40) (fun _ h9 => h9) rfl dX3_turn_28 ?_
      refine lv_iload_n hx hb dX3_turn_31 rfl (lv_at hl 1 rfl) ?_
      obtain ⟨hg10, hf⟩ := gd_some hf
      refine va_iald hx hb hE.2.1 hP 12 0 rfl rfl hg10 dX3_turn_32 ?_
      refine lv_istore_n (lv' := [(3, .int ((g0_kinds (g3_house n)) p1.toNatClampNeg)), (0, .ref ((a 8) 0)), (1, .int p1), (2, .int p2)]) hx hb dX3_turn_33 rfl hl (by decide) rfl (fun ls hl => ?_)
      refine lv_aload_n hx hb dX3_turn_34 rfl (lv_at hl 1 rfl) ?_
      refine va_get (D := E.1) (ci := 3) (v := .ref ((a 0) 0)) (C := RX3) (T := TX3) (N := 7) hx hb hts inX3 hown hE.2.1 hP 0 rfl rfl 0 (by decide) (hE.w tw_119) (fun _ h9 => h9) rfl dX3_turn_35 ?_
      refine va_getN (D := E.1) (ci := 0) (v := .ref ((a 0) 6)) (C := RX0) (T := TX0) (N := 10) hx hb hts inX0 hown hE.2.1 hP 9 rfl rfl 5 (by decide) (hE.w tw_40) (fun _ h9 => h9) rfl dX3_turn_38 ?_
      refine lv_iload_n hx hb dX3_turn_41 rfl (lv_at hl 2 rfl) ?_
      refine lv_iload_n hx hb dX3_turn_42 rfl (lv_at hl 3 rfl) ?_
      obtain ⟨hg11, hf⟩ := gd_some hf
      obtain ⟨n_12, en_12, hf⟩ := jn1_some hf
      refine va_iast hx hb hE.2.1 hP hD hS 12 0 rfl rfl hg11 dX3_turn_43 (fun H locs hP hD hS => ?_)
      have hP : va_P E.1 vwCl (wX3 E a n_12) H := wst (by rw [en_12]; exact rfl) hP
      have hD : va_D A (wX3 E a n_12) := wsd (by rw [en_12]; exact rfl) hD
      refine lv_iload_n hx hb dX3_turn_44 rfl (lv_at hl 0 rfl) ?_
      obtain ⟨rfl, rfl⟩ := so2 hf
      exact rt_i hx hb hr hlocks hP hD hS dX3_turn_45
    · have hf := ip c9 hf
      refine lv_aload_n hx hb dX3_turn_17 rfl (lv_at hl 0 rfl) ?_
      refine lv_ldc (v := (-1000000001 : Int32)) hx hb hown (hE.w tw_148) dX3_turn_18 ?_
      obtain ⟨r14, n15, hc13, hf⟩ := bd2_some hf
      refine cV (X := List.take 0 (wX3 E a n)) (Y := List.drop 37 (wX3 E a n)) (w := (wX3 E a n)) (w' := (wX3 E a n15)) (q0 := 0) lk_X3_49 hx hb hml hown hE hA (c_X3_finding l E a n (-1000000001 : Int32) r14 n15 hc13) rfl rfl hP hD hS rfl rfl ⟨rfl, rfl, Nat.le_of_ble_eq_true rfl, Nat.le_of_ble_eq_true rfl⟩ hl.1 (As := [.int (-1000000001 : Int32)]) (rest := []) rfl rfl (Nat.le_of_ble_eq_true rfl) ⟨Nat.zero_le _, Nat.zero_le _⟩ dX3_turn_20 (fun H locs hP hD hS => ?_)
      refine W.eq (g2 := F0 m 23 ls [.int r14]) rfl ?_
      obtain ⟨rfl, rfl⟩ := so2 hf
      exact rt_i hx hb hr hlocks hP hD hS dX3_turn_23
def f_X3_as (n : NS) (p1 : Int32) (p2 : Int32) : Option (Int32 × NS) := bd1 (f_X3_isThere n p1) (fun r2 => if (bI r2) = 0 then bd2 (f_X3_finding n (-1000000001 : Int32)) (fun r5 n6 => some (r5, n6)) else bd1 (f_X3_isIn p2 (0 : Int32) (5 : Int32)) (fun r8 => if (bI r8) = 0 then bd2 (f_X3_finding n (-1000000001 : Int32)) (fun r19 n20 => some (r19, n20)) else gd p1 8 (bd1 (f_X3_isUnder ((g0_kinds (g3_house n)) p1.toNatClampNeg) p2) (fun r12 => if (bI r12) = 0 then bd2 (f_X3_finding n (-1000000003 : Int32)) (fun r16 n17 => some (r16, n17)) else gd p1 8 (some (((g0_freshes (g3_house n)) p1.toNatClampNeg), n))))))
set_option maxHeartbeats 4000000 in
set_option maxRecDepth 100000 in
theorem c_X3_as (l : Launch) (E : EV) (a : Nat → Nat → Nat) (n : NS) (p1 : Int32) (p2 : Int32)  (r : Int32) (n' : NS) (hf : f_X3_as n p1 p2 = some (r, n')) : Ct l E yX3_as cX3_as 3 ((Option.some FieldType.int)) (rmk 2 43) [.ref ((a 8) 0), .int p1, .int p2] (wX3 E a n) (wX3 E a n') (some (.int r)) := by
  refine Ct.of (by decide) (Nat.le_of_ble_eq_true rfl) ?_
  intro p e s m below meth c A ls hC hP hD hl
  obtain ⟨hx, hb, hr, hml, hown, hlocks, hE, hA⟩ := hC
  have hts : ∀ w ∈ tbl, w.before [.ref ((a 8) 0), .int p1, .int p2].toArray s = true := fun w hw => hE.w hw
  have hS : va_S A s.heap s.heap [] := va_S.rf
  have hl : lv_has ls 3 [(0, .ref ((a 8) 0)), (1, .int p1), (2, .int p2)] := hl
  unfold f_X3_as at hf
  refine lv_aload_n hx hb dX3_as_0 rfl (lv_at hl 0 rfl) ?_
  refine lv_iload_n hx hb dX3_as_1 rfl (lv_at hl 1 rfl) ?_
  obtain ⟨r2, hc1, hf⟩ := bd1_some hf
  refine cV (X := List.take 0 (wX3 E a n)) (Y := List.drop 37 (wX3 E a n)) (w := (wX3 E a n)) (w' := (wX3 E a n)) (q0 := 0) lk_X3_84 hx hb hml hown hE hA (c_X3_isThere l E a n p1 r2 hc1) rfl rfl hP hD hS rfl rfl ⟨rfl, rfl, Nat.le_of_ble_eq_true rfl, Nat.le_of_ble_eq_true rfl⟩ hl.1 (As := [.int p1]) (rest := []) rfl rfl (Nat.le_of_ble_eq_true rfl) ⟨Nat.zero_le _, Nat.zero_le _⟩ dX3_as_2 (fun H locs hP hD hS => ?_)
  refine W.eq (g2 := F0 m 5 ls [.int (bI r2)]) rfl ?_
  refine lv_if_eq (tgt := 17) hx hb dX3_as_5 (by decide) (fun c3 => ?_) (fun c3 => ?_)
  · have hf := ip c3 hf
    refine lv_aload_n hx hb dX3_as_17 rfl (lv_at hl 0 rfl) ?_
    refine lv_ldc (v := (-1000000001 : Int32)) hx hb hown (hE.w tw_148) dX3_as_18 ?_
    obtain ⟨r5, n6, hc4, hf⟩ := bd2_some hf
    refine cV (X := List.take 0 (wX3 E a n)) (Y := List.drop 37 (wX3 E a n)) (w := (wX3 E a n)) (w' := (wX3 E a n6)) (q0 := 0) lk_X3_49 hx hb hml hown hE hA (c_X3_finding l E a n (-1000000001 : Int32) r5 n6 hc4) rfl rfl hP hD hS rfl rfl ⟨rfl, rfl, Nat.le_of_ble_eq_true rfl, Nat.le_of_ble_eq_true rfl⟩ hl.1 (As := [.int (-1000000001 : Int32)]) (rest := []) rfl rfl (Nat.le_of_ble_eq_true rfl) ⟨Nat.zero_le _, Nat.zero_le _⟩ dX3_as_20 (fun H locs hP hD hS => ?_)
    refine W.eq (g2 := F0 m 23 ls [.int r5]) rfl ?_
    obtain ⟨rfl, rfl⟩ := so2 hf
    exact rt_i hx hb hr hlocks hP hD hS dX3_as_23
  · have hf := im c3 hf
    refine lv_iload_n hx hb dX3_as_8 rfl (lv_at hl 2 rfl) ?_
    refine lv_iconst (v := (0 : Int32)) hx hb dX3_as_9 (by decide) ?_
    refine lv_iconst (v := (5 : Int32)) hx hb dX3_as_10 (by decide) ?_
    obtain ⟨r8, hc7, hf⟩ := bd1_some hf
    refine cS (X := List.take 0 (wX3 E a n)) (Y := List.drop 0 (wX3 E a n)) (w := (wX3 E a n)) (w' := (wX3 E a n)) lk_X3_44 hx hb hml hown hE hA (c_X3_isIn l E p2 (0 : Int32) (5 : Int32) r8 hc7) rfl rfl hP hD hS ⟨rfl, rfl, Nat.le_of_ble_eq_true rfl, Nat.le_of_ble_eq_true rfl⟩ hl.1 (As := [.int p2, .int (0 : Int32), .int (5 : Int32)]) (rest := []) rfl rfl (Nat.le_of_ble_eq_true rfl) ⟨Nat.zero_le _, Nat.zero_le _⟩ dX3_as_11 (fun H locs hP hD hS => ?_)
    refine W.eq (g2 := F0 m 14 ls [.int (bI r8)]) rfl ?_
    refine lv_if_ne (tgt := 24) hx hb dX3_as_14 (by decide) (fun c9 => ?_) (fun c9 => ?_)
    · have hf := im c9 hf
      refine lv_aload_n hx hb dX3_as_24 rfl (lv_at hl 0 rfl) ?_
      refine va_get (D := E.1) (ci := 3) (v := .ref ((a 0) 0)) (C := RX3) (T := TX3) (N := 7) hx hb hts inX3 hown hE.2.1 hP 0 rfl rfl 0 (by decide) (hE.w tw_119) (fun _ h9 => h9) rfl dX3_as_25 ?_
      refine va_getN (D := E.1) (ci := 0) (v := .ref ((a 0) 6)) (C := RX0) (T := TX0) (N := 10) hx hb hts inX0 hown hE.2.1 hP 9 rfl rfl 5 (by decide) (hE.w tw_40) (fun _ h9 => h9) rfl dX3_as_28 ?_
      refine lv_iload_n hx hb dX3_as_31 rfl (lv_at hl 1 rfl) ?_
      obtain ⟨hg10, hf⟩ := gd_some hf
      refine va_iald hx hb hE.2.1 hP 12 0 rfl rfl hg10 dX3_as_32 ?_
      refine lv_iload_n hx hb dX3_as_33 rfl (lv_at hl 2 rfl) ?_
      obtain ⟨r12, hc11, hf⟩ := bd1_some hf
      refine cS (X := List.take 0 (wX3 E a n)) (Y := List.drop 0 (wX3 E a n)) (w := (wX3 E a n)) (w' := (wX3 E a n)) lk_X3_110 hx hb hml hown hE hA (c_X3_isUnder l E ((g0_kinds (g3_house n)) p1.toNatClampNeg) p2 r12 hc11) rfl rfl hP hD hS ⟨rfl, rfl, Nat.le_of_ble_eq_true rfl, Nat.le_of_ble_eq_true rfl⟩ hl.1 (As := [.int ((g0_kinds (g3_house n)) p1.toNatClampNeg), .int p2]) (rest := []) rfl rfl (Nat.le_of_ble_eq_true rfl) ⟨Nat.zero_le _, Nat.zero_le _⟩ dX3_as_34 (fun H locs hP hD hS => ?_)
      refine W.eq (g2 := F0 m 37 ls [.int (bI r12)]) rfl ?_
      refine lv_if_ne (tgt := 47) hx hb dX3_as_37 (by decide) (fun c13 => ?_) (fun c13 => ?_)
      · have hf := im c13 hf
        refine lv_aload_n hx hb dX3_as_47 rfl (lv_at hl 0 rfl) ?_
        refine va_get (D := E.1) (ci := 3) (v := .ref ((a 0) 0)) (C := RX3) (T := TX3) (N := 7) hx hb hts inX3 hown hE.2.1 hP 0 rfl rfl 0 (by decide) (hE.w tw_119) (fun _ h9 => h9) rfl dX3_as_48 ?_
        refine va_getN (D := E.1) (ci := 0) (v := .ref ((a 0) 7)) (C := RX0) (T := TX0) (N := 10) hx hb hts inX0 hown hE.2.1 hP 9 rfl rfl 6 (by decide) (hE.w tw_43) (fun _ h9 => h9) rfl dX3_as_51 ?_
        refine lv_iload_n hx hb dX3_as_54 rfl (lv_at hl 1 rfl) ?_
        obtain ⟨hg14, hf⟩ := gd_some hf
        refine va_iald hx hb hE.2.1 hP 13 0 rfl rfl hg14 dX3_as_55 ?_
        obtain ⟨rfl, rfl⟩ := so2 hf
        exact rt_i hx hb hr hlocks hP hD hS dX3_as_56
      · have hf := ip c13 hf
        refine lv_aload_n hx hb dX3_as_40 rfl (lv_at hl 0 rfl) ?_
        refine lv_ldc (v := (-1000000003 : Int32)) hx hb hown (hE.w tw_249) dX3_as_41 ?_
        obtain ⟨r16, n17, hc15, hf⟩ := bd2_some hf
        refine cV (X := List.take 0 (wX3 E a n)) (Y := List.drop 37 (wX3 E a n)) (w := (wX3 E a n)) (w' := (wX3 E a n17)) (q0 := 0) lk_X3_49 hx hb hml hown hE hA (c_X3_finding l E a n (-1000000003 : Int32) r16 n17 hc15) rfl rfl hP hD hS rfl rfl ⟨rfl, rfl, Nat.le_of_ble_eq_true rfl, Nat.le_of_ble_eq_true rfl⟩ hl.1 (As := [.int (-1000000003 : Int32)]) (rest := []) rfl rfl (Nat.le_of_ble_eq_true rfl) ⟨Nat.zero_le _, Nat.zero_le _⟩ dX3_as_43 (fun H locs hP hD hS => ?_)
        refine W.eq (g2 := F0 m 46 ls [.int r16]) rfl ?_
        obtain ⟨rfl, rfl⟩ := so2 hf
        exact rt_i hx hb hr hlocks hP hD hS dX3_as_46
    · have hf := ip c9 hf
      refine lv_aload_n hx hb dX3_as_17 rfl (lv_at hl 0 rfl) ?_
      refine lv_ldc (v := (-1000000001 : Int32)) hx hb hown (hE.w tw_148) dX3_as_18 ?_
      obtain ⟨r19, n20, hc18, hf⟩ := bd2_some hf
      refine cV (X := List.take 0 (wX3 E a n)) (Y := List.drop 37 (wX3 E a n)) (w := (wX3 E a n)) (w' := (wX3 E a n20)) (q0 := 0) lk_X3_49 hx hb hml hown hE hA (c_X3_finding l E a n (-1000000001 : Int32) r19 n20 hc18) rfl rfl hP hD hS rfl rfl ⟨rfl, rfl, Nat.le_of_ble_eq_true rfl, Nat.le_of_ble_eq_true rfl⟩ hl.1 (As := [.int (-1000000001 : Int32)]) (rest := []) rfl rfl (Nat.le_of_ble_eq_true rfl) ⟨Nat.zero_le _, Nat.zero_le _⟩ dX3_as_20 (fun H locs hP hD hS => ?_)
      refine W.eq (g2 := F0 m 23 ls [.int r19]) rfl ?_
      obtain ⟨rfl, rfl⟩ := so2 hf
      exact rt_i hx hb hr hlocks hP hD hS dX3_as_23
def f_X3_swap (n : NS) (p1 : Int32) (p2 : Int32) : Option (Int32 × NS) := bd1 (f_X3_isThere n p1) (fun r2 => if (bI r2) = 0 then bd2 (f_X3_finding n (-1000000001 : Int32)) (fun r5 n6 => some (r5, n6)) else bd1 (f_X3_isThere n p2) (fun r8 => if (bI r8) = 0 then bd2 (f_X3_finding n (-1000000001 : Int32)) (fun r11 n12 => some (r11, n12)) else if p1 = p2 then bd2 (f_X3_finding n (-1000000001 : Int32)) (fun r18 n19 => some (r18, n19)) else bd1 (f_X0_changeSeats (g3_house n) p1 p2) (fun h15 => jn1 (s3_house n h15) (fun n_16 => some ((1 : Int32), n_16)))))
set_option maxHeartbeats 4000000 in
set_option maxRecDepth 100000 in
theorem c_X3_swap (l : Launch) (E : EV) (a : Nat → Nat → Nat) (n : NS) (p1 : Int32) (p2 : Int32)  (r : Int32) (n' : NS) (hf : f_X3_swap n p1 p2 = some (r, n')) : Ct l E yX3_swap cX3_swap 3 ((Option.some FieldType.int)) (rmk 2 45) [.ref ((a 8) 0), .int p1, .int p2] (wX3 E a n) (wX3 E a n') (some (.int r)) := by
  refine Ct.of (by decide) (Nat.le_of_ble_eq_true rfl) ?_
  intro p e s m below meth c A ls hC hP hD hl
  obtain ⟨hx, hb, hr, hml, hown, hlocks, hE, hA⟩ := hC
  have hts : ∀ w ∈ tbl, w.before [.ref ((a 8) 0), .int p1, .int p2].toArray s = true := fun w hw => hE.w hw
  have hS : va_S A s.heap s.heap [] := va_S.rf
  have hl : lv_has ls 3 [(0, .ref ((a 8) 0)), (1, .int p1), (2, .int p2)] := hl
  unfold f_X3_swap at hf
  refine lv_aload_n hx hb dX3_swap_0 rfl (lv_at hl 0 rfl) ?_
  refine lv_iload_n hx hb dX3_swap_1 rfl (lv_at hl 1 rfl) ?_
  obtain ⟨r2, hc1, hf⟩ := bd1_some hf
  refine cV (X := List.take 0 (wX3 E a n)) (Y := List.drop 37 (wX3 E a n)) (w := (wX3 E a n)) (w' := (wX3 E a n)) (q0 := 0) lk_X3_84 hx hb hml hown hE hA (c_X3_isThere l E a n p1 r2 hc1) rfl rfl hP hD hS rfl rfl ⟨rfl, rfl, Nat.le_of_ble_eq_true rfl, Nat.le_of_ble_eq_true rfl⟩ hl.1 (As := [.int p1]) (rest := []) rfl rfl (Nat.le_of_ble_eq_true rfl) ⟨Nat.zero_le _, Nat.zero_le _⟩ dX3_swap_2 (fun H locs hP hD hS => ?_)
  refine W.eq (g2 := F0 m 5 ls [.int (bI r2)]) rfl ?_
  refine lv_if_eq (tgt := 21) hx hb dX3_swap_5 (by decide) (fun c3 => ?_) (fun c3 => ?_)
  · have hf := ip c3 hf
    refine lv_aload_n hx hb dX3_swap_21 rfl (lv_at hl 0 rfl) ?_
    refine lv_ldc (v := (-1000000001 : Int32)) hx hb hown (hE.w tw_148) dX3_swap_22 ?_
    obtain ⟨r5, n6, hc4, hf⟩ := bd2_some hf
    refine cV (X := List.take 0 (wX3 E a n)) (Y := List.drop 37 (wX3 E a n)) (w := (wX3 E a n)) (w' := (wX3 E a n6)) (q0 := 0) lk_X3_49 hx hb hml hown hE hA (c_X3_finding l E a n (-1000000001 : Int32) r5 n6 hc4) rfl rfl hP hD hS rfl rfl ⟨rfl, rfl, Nat.le_of_ble_eq_true rfl, Nat.le_of_ble_eq_true rfl⟩ hl.1 (As := [.int (-1000000001 : Int32)]) (rest := []) rfl rfl (Nat.le_of_ble_eq_true rfl) ⟨Nat.zero_le _, Nat.zero_le _⟩ dX3_swap_24 (fun H locs hP hD hS => ?_)
    refine W.eq (g2 := F0 m 27 ls [.int r5]) rfl ?_
    obtain ⟨rfl, rfl⟩ := so2 hf
    exact rt_i hx hb hr hlocks hP hD hS dX3_swap_27
  · have hf := im c3 hf
    refine lv_aload_n hx hb dX3_swap_8 rfl (lv_at hl 0 rfl) ?_
    refine lv_iload_n hx hb dX3_swap_9 rfl (lv_at hl 2 rfl) ?_
    obtain ⟨r8, hc7, hf⟩ := bd1_some hf
    refine cV (X := List.take 0 (wX3 E a n)) (Y := List.drop 37 (wX3 E a n)) (w := (wX3 E a n)) (w' := (wX3 E a n)) (q0 := 0) lk_X3_84 hx hb hml hown hE hA (c_X3_isThere l E a n p2 r8 hc7) rfl rfl hP hD hS rfl rfl ⟨rfl, rfl, Nat.le_of_ble_eq_true rfl, Nat.le_of_ble_eq_true rfl⟩ hl.1 (As := [.int p2]) (rest := []) rfl rfl (Nat.le_of_ble_eq_true rfl) ⟨Nat.zero_le _, Nat.zero_le _⟩ dX3_swap_10 (fun H locs hP hD hS => ?_)
    refine W.eq (g2 := F0 m 13 ls [.int (bI r8)]) rfl ?_
    refine lv_if_eq (tgt := 21) hx hb dX3_swap_13 (by decide) (fun c9 => ?_) (fun c9 => ?_)
    · have hf := ip c9 hf
      refine lv_aload_n hx hb dX3_swap_21 rfl (lv_at hl 0 rfl) ?_
      refine lv_ldc (v := (-1000000001 : Int32)) hx hb hown (hE.w tw_148) dX3_swap_22 ?_
      obtain ⟨r11, n12, hc10, hf⟩ := bd2_some hf
      refine cV (X := List.take 0 (wX3 E a n)) (Y := List.drop 37 (wX3 E a n)) (w := (wX3 E a n)) (w' := (wX3 E a n12)) (q0 := 0) lk_X3_49 hx hb hml hown hE hA (c_X3_finding l E a n (-1000000001 : Int32) r11 n12 hc10) rfl rfl hP hD hS rfl rfl ⟨rfl, rfl, Nat.le_of_ble_eq_true rfl, Nat.le_of_ble_eq_true rfl⟩ hl.1 (As := [.int (-1000000001 : Int32)]) (rest := []) rfl rfl (Nat.le_of_ble_eq_true rfl) ⟨Nat.zero_le _, Nat.zero_le _⟩ dX3_swap_24 (fun H locs hP hD hS => ?_)
      refine W.eq (g2 := F0 m 27 ls [.int r11]) rfl ?_
      obtain ⟨rfl, rfl⟩ := so2 hf
      exact rt_i hx hb hr hlocks hP hD hS dX3_swap_27
    · have hf := im c9 hf
      refine lv_iload_n hx hb dX3_swap_16 rfl (lv_at hl 1 rfl) ?_
      refine lv_iload_n hx hb dX3_swap_17 rfl (lv_at hl 2 rfl) ?_
      refine lv_icmp_ne (tgt := 28) hx hb dX3_swap_18 (by decide) (fun c13 => ?_) (fun c13 => ?_)
      · have hf := im c13 hf
        refine lv_aload_n hx hb dX3_swap_28 rfl (lv_at hl 0 rfl) ?_
        refine va_get (D := E.1) (ci := 3) (v := .ref ((a 0) 0)) (C := RX3) (T := TX3) (N := 7) hx hb hts inX3 hown hE.2.1 hP 0 rfl rfl 0 (by decide) (hE.w tw_119) (fun _ h9 => h9) rfl dX3_swap_29 ?_
        refine lv_iload_n hx hb dX3_swap_32 rfl (lv_at hl 1 rfl) ?_
        refine lv_iload_n hx hb dX3_swap_33 rfl (lv_at hl 2 rfl) ?_
        obtain ⟨h15, hc14, hf⟩ := bd1_some hf
        obtain ⟨n_16, en_16, hf⟩ := jn1_some hf
        refine cVN (X := List.take 9 (wX3 E a n)) (Y := List.drop 17 (wX3 E a n)) (w := (wX3 E a n)) (w' := (wX3 E a n_16)) (q0 := 0) lk_X3_115 hx hb hml hown hE hA (c_X0_changeSeats l E (a 0) (g3_house n) p1 p2 h15 hc14) rfl (by rw [en_16]; rfl) hP hD hS rfl rfl ⟨rfl, rfl, Nat.le_of_ble_eq_true rfl, Nat.le_of_ble_eq_true rfl⟩ hl.1 (As := [.int p1, .int p2]) (rest := []) rfl rfl (Nat.le_of_ble_eq_true rfl) ⟨Nat.zero_le _, Nat.zero_le _⟩ dX3_swap_34 (fun H locs hP hD hS => ?_)
        refine W.eq (g2 := F0 m 37 ls []) rfl ?_
        refine lv_iconst (v := (1 : Int32)) hx hb dX3_swap_37 (by decide) ?_
        obtain ⟨rfl, rfl⟩ := so2 hf
        exact rt_i hx hb hr hlocks hP hD hS dX3_swap_38
      · have hf := ip c13 hf
        refine lv_aload_n hx hb dX3_swap_21 rfl (lv_at hl 0 rfl) ?_
        refine lv_ldc (v := (-1000000001 : Int32)) hx hb hown (hE.w tw_148) dX3_swap_22 ?_
        obtain ⟨r18, n19, hc17, hf⟩ := bd2_some hf
        refine cV (X := List.take 0 (wX3 E a n)) (Y := List.drop 37 (wX3 E a n)) (w := (wX3 E a n)) (w' := (wX3 E a n19)) (q0 := 0) lk_X3_49 hx hb hml hown hE hA (c_X3_finding l E a n (-1000000001 : Int32) r18 n19 hc17) rfl rfl hP hD hS rfl rfl ⟨rfl, rfl, Nat.le_of_ble_eq_true rfl, Nat.le_of_ble_eq_true rfl⟩ hl.1 (As := [.int (-1000000001 : Int32)]) (rest := []) rfl rfl (Nat.le_of_ble_eq_true rfl) ⟨Nat.zero_le _, Nat.zero_le _⟩ dX3_swap_24 (fun H locs hP hD hS => ?_)
        refine W.eq (g2 := F0 m 27 ls [.int r18]) rfl ?_
        obtain ⟨rfl, rfl⟩ := so2 hf
        exact rt_i hx hb hr hlocks hP hD hS dX3_swap_27
