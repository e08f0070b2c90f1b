def f_X3_moments (n : NS) (p1 : Int32) : Option (Int32 × NS) := bd1 (f_X3_isIn p1 (1 : Int32) (200 : Int32)) (fun r2 => if (bI r2) = 0 then bd2 (f_X3_finding n (-1000000001 : Int32)) (fun r12 n13 => some (r12, n13)) else if ((g0_night (g3_house n)) + (((g0_moment (g3_house n)) + p1) / (16 : Int32))) ≤ (9999 : Int32) then bd1 (f_X0_goOn (g3_house n) p1) (fun h6 => jn1 (s3_house n h6) (fun n_7 => some ((g0_moment (g3_house n_7)), n_7))) else bd2 (f_X3_finding n (-1000000005 : Int32)) (fun r9 n10 => some (r9, n10)))
set_option maxHeartbeats 4000000 in
set_option maxRecDepth 100000 in
theorem c_X3_moments (l : Launch) (E : EV) (a : Nat → Nat → Nat) (n : NS) (p1 : Int32)  (r : Int32) (n' : NS) (hf : f_X3_moments n p1 = some (r, n')) : Ct l E yX3_moments cX3_moments 2 ((Option.some FieldType.int)) (rmk 5 108) [.ref ((a 8) 0), .int p1] (wX3 E a n) (wX3 E a n') (some (.int r)) := by
  refine Ct.of (by decide) (Nat.le_of_ble_eq_true rfl) ?_
  intro p e s m below meth c A ls hC hP hD hl
  obtain ⟨hx, hb, hr, hml, hown, hlocks, hE, hA⟩ := hC
  have hts : ∀ w ∈ tbl, w.before [.ref ((a 8) 0), .int p1].toArray s = true := fun w hw => hE.w hw
  have hS : va_S A s.heap s.heap [] := va_S.rf
  have hl : lv_has ls 2 [(0, .ref ((a 8) 0)), (1, .int p1)] := hl
  unfold f_X3_moments at hf
  refine lv_iload_n hx hb dX3_moments_0 rfl (lv_at hl 1 rfl) ?_
  refine lv_iconst (v := (1 : Int32)) hx hb dX3_moments_1 (by decide) ?_
  refine lv_sipush (v := (200 : Int32)) hx hb dX3_moments_2 (by decide) ?_
  obtain ⟨r2, hc1, hf⟩ := bd1_some hf
  refine cS (X := List.take 0 (wX3 E a n)) (Y := List.drop 0 (wX3 E a n)) (w := (wX3 E a n)) (w' := (wX3 E a n)) lk_X3_44 hx hb hml hown hE hA (c_X3_isIn l E p1 (1 : Int32) (200 : Int32) r2 hc1) rfl rfl hP hD hS ⟨rfl, rfl, Nat.le_of_ble_eq_true rfl, Nat.le_of_ble_eq_true rfl⟩ hl.1 (As := [.int p1, .int (1 : Int32), .int (200 : Int32)]) (rest := []) rfl rfl (Nat.le_of_ble_eq_true rfl) ⟨Nat.zero_le _, Nat.zero_le _⟩ dX3_moments_5 (fun H locs hP hD hS => ?_)
  refine W.eq (g2 := F0 m 8 ls [.int (bI r2)]) rfl ?_
  refine lv_if_ne (tgt := 18) hx hb dX3_moments_8 (by decide) (fun c3 => ?_) (fun c3 => ?_)
  · have hf := im c3 hf
    refine lv_aload_n hx hb dX3_moments_18 rfl (lv_at hl 0 rfl) ?_
    refine va_get (D := E.1) (ci := 3) (v := .ref ((a 0) 0)) (C := RX3) (T := TX3) (N := 7) hx hb hts inX3 hown hE.2.1 hP 0 rfl rfl 0 (by decide) (hE.w tw_119) (fun _ h9 => h9) rfl dX3_moments_19 ?_
    refine va_getN (D := E.1) (ci := 0) (v := .int (g0_night (g3_house n))) (C := RX0) (T := TX0) (N := 10) hx hb hts inX0 hown hE.2.1 hP 9 rfl rfl 0 (by decide) (hE.w tw_27) (fun _ h9 => h9) rfl dX3_moments_22 ?_
    refine lv_aload_n hx hb dX3_moments_25 rfl (lv_at hl 0 rfl) ?_
    refine va_get (D := E.1) (ci := 3) (v := .ref ((a 0) 0)) (C := RX3) (T := TX3) (N := 7) hx hb hts inX3 hown hE.2.1 hP 0 rfl rfl 0 (by decide) (hE.w tw_119) (fun _ h9 => h9) rfl dX3_moments_26 ?_
    refine va_getN (D := E.1) (ci := 0) (v := .int (g0_moment (g3_house n))) (C := RX0) (T := TX0) (N := 10) hx hb hts inX0 hown hE.2.1 hP 9 rfl rfl 1 (by decide) (hE.w tw_29) (fun _ h9 => h9) rfl dX3_moments_29 ?_
    refine lv_iload_n hx hb dX3_moments_32 rfl (lv_at hl 1 rfl) ?_
    refine lv_iadd hx hb dX3_moments_33 ?_
    refine lv_bipush (v := (16 : Int32)) hx hb dX3_moments_34 (by decide) ?_
    refine lv_idiv hx hb dX3_moments_36 (by decide) ?_
    refine lv_iadd hx hb dX3_moments_37 ?_
    refine lv_sipush (v := (9999 : Int32)) hx hb dX3_moments_38 (by decide) ?_
    refine lv_icmp_le (tgt := 51) hx hb dX3_moments_41 (by decide) (fun c4 => ?_) (fun c4 => ?_)
    · have hf := ip c4 hf
      refine lv_aload_n hx hb dX3_moments_51 rfl (lv_at hl 0 rfl) ?_
      refine va_get (D := E.1) (ci := 3) (v := .ref ((a 0) 0)) (C := RX3) (T := TX3) (N := 7) hx hb hts inX3 hown hE.2.1 hP 0 rfl rfl 0 (by decide) (hE.w tw_119) (fun _ h9 => h9) rfl dX3_moments_52 ?_
      refine lv_iload_n hx hb dX3_moments_55 rfl (lv_at hl 1 rfl) ?_
      obtain ⟨h6, hc5, hf⟩ := bd1_some hf
      obtain ⟨n_7, en_7, hf⟩ := jn1_some hf
      refine cVN (X := List.take 9 (wX3 E a n)) (Y := List.drop 17 (wX3 E a n)) (w := (wX3 E a n)) (w' := (wX3 E a n_7)) (q0 := 0) lk_X3_120 hx hb hml hown hE hA (c_X0_goOn l E (a 0) (g3_house n) p1 h6 hc5) rfl (by rw [en_7]; rfl) hP hD hS rfl rfl ⟨rfl, rfl, Nat.le_of_ble_eq_true rfl, Nat.le_of_ble_eq_true rfl⟩ hl.1 (As := [.int p1]) (rest := []) rfl rfl (Nat.le_of_ble_eq_true rfl) ⟨Nat.zero_le _, Nat.zero_le _⟩ dX3_moments_56 (fun H locs hP hD hS => ?_)
      refine W.eq (g2 := F0 m 59 ls []) rfl ?_
      refine lv_aload_n hx hb dX3_moments_59 rfl (lv_at hl 0 rfl) ?_
      refine va_get (D := E.1) (ci := 3) (v := .ref ((a 0) 0)) (C := RX3) (T := TX3) (N := 7) hx hb hts inX3 hown hE.2.1 hP 0 rfl rfl 0 (by decide) (hE.w tw_119) (fun _ h9 => h9) rfl dX3_moments_60 ?_
      refine va_getN (D := E.1) (ci := 0) (v := .int (g0_moment (g3_house n_7))) (C := RX0) (T := TX0) (N := 10) hx hb hts inX0 hown hE.2.1 hP 9 rfl rfl 1 (by decide) (hE.w tw_29) (fun _ h9 => h9) rfl dX3_moments_63 ?_
      obtain ⟨rfl, rfl⟩ := so2 hf
      exact rt_i hx hb hr hlocks hP hD hS dX3_moments_66
    · have hf := im c4 hf
      refine lv_aload_n hx hb dX3_moments_44 rfl (lv_at hl 0 rfl) ?_
      refine lv_ldc (v := (-1000000005 : Int32)) hx hb hown (hE.w tw_265) dX3_moments_45 ?_
      obtain ⟨r9, n10, hc8, hf⟩ := bd2_some hf
      refine cV (X := List.take 0 (wX3 E a n)) (Y := List.drop 37 (wX3 E a n)) (w := (wX3 E a n)) (w' := (wX3 E a n10)) (q0 := 0) lk_X3_49 hx hb hml hown hE hA (c_X3_finding l E a n (-1000000005 : Int32) r9 n10 hc8) rfl rfl hP hD hS rfl rfl ⟨rfl, rfl, Nat.le_of_ble_eq_true rfl, Nat.le_of_ble_eq_true rfl⟩ hl.1 (As := [.int (-1000000005 : Int32)]) (rest := []) rfl rfl (Nat.le_of_ble_eq_true rfl) ⟨Nat.zero_le _, Nat.zero_le _⟩ dX3_moments_47 (fun H locs hP hD hS => ?_)
      refine W.eq (g2 := F0 m 50 ls [.int r9]) rfl ?_
      obtain ⟨rfl, rfl⟩ := so2 hf
      exact rt_i hx hb hr hlocks hP hD hS dX3_moments_50
  · have hf := ip c3 hf
    refine lv_aload_n hx hb dX3_moments_11 rfl (lv_at hl 0 rfl) ?_
    refine lv_ldc (v := (-1000000001 : Int32)) hx hb hown (hE.w tw_148) dX3_moments_12 ?_
    obtain ⟨r12, n13, hc11, hf⟩ := bd2_some hf
    refine cV (X := List.take 0 (wX3 E a n)) (Y := List.drop 37 (wX3 E a n)) (w := (wX3 E a n)) (w' := (wX3 E a n13)) (q0 := 0) lk_X3_49 hx hb hml hown hE hA (c_X3_finding l E a n (-1000000001 : Int32) r12 n13 hc11) rfl rfl hP hD hS rfl rfl ⟨rfl, rfl, Nat.le_of_ble_eq_true rfl, Nat.le_of_ble_eq_true rfl⟩ hl.1 (As := [.int (-1000000001 : Int32)]) (rest := []) rfl rfl (Nat.le_of_ble_eq_true rfl) ⟨Nat.zero_le _, Nat.zero_le _⟩ dX3_moments_14 (fun H locs hP hD hS => ?_)
    refine W.eq (g2 := F0 m 17 ls [.int r12]) rfl ?_
    obtain ⟨rfl, rfl⟩ := so2 hf
    exact rt_i hx hb hr hlocks hP hD hS dX3_moments_17
def f_X3_note (n : NS) (p1 : Int32) (p2 : Int32) : Option (Int32 × NS) := bd1 (f_X3_isThere n p1) (fun r2 => if (bI r2) = 0 then bd2 (f_X3_finding n (-1000000001 : Int32)) (fun r5 n6 => some (r5, n6)) else bd1 (f_X3_isIn p2 (0 : Int32) (400 : Int32)) (fun r8 => if (bI r8) = 0 then bd2 (f_X3_finding n (-1000000001 : Int32)) (fun r17 n18 => some (r17, n18)) else bd1 (f_X3_startTrial n) (fun n11 => bd1 (f_X0_goOn (g3_trial n11) p2) (fun h13 => jn1 (s3_trial n11 h13) (fun n_14 => gd p1 8 (some (((g0_notes (g3_trial n_14)) p1.toNatClampNeg), n_14)))))))
set_option maxHeartbeats 4000000 in
set_option maxRecDepth 100000 in
theorem c_X3_note (l : Launch) (E : EV) (a : Nat → Nat → Nat) (n : NS) (p1 : Int32) (p2 : Int32)  (r : Int32) (n' : NS) (hf : f_X3_note n p1 p2 = some (r, n')) : Ct l E yX3_note cX3_note 3 ((Option.some FieldType.int)) (rmk 5 108) [.ref ((a 8) 0), .int p1, .int p2] (wX3 E a n) (wX3 E a n') (some (.int r)) := by
  refine Ct.of (by decide) (Nat.le_of_ble_eq_true rfl) ?_
  intro p e s m below meth c A ls hC hP hD hl
  obtain ⟨hx, hb, hr, hml, hown, hlocks, hE, hA⟩ := hC
  have hts : ∀ w ∈ tbl, w.before [.ref ((a 8) 0), .int p1, .int p2].toArray s = true := fun w hw => hE.w hw
  have hS : va_S A s.heap s.heap [] := va_S.rf
  have hl : lv_has ls 3 [(0, .ref ((a 8) 0)), (1, .int p1), (2, .int p2)] := hl
  unfold f_X3_note at hf
  refine lv_aload_n hx hb dX3_note_0 rfl (lv_at hl 0 rfl) ?_
  refine lv_iload_n hx hb dX3_note_1 rfl (lv_at hl 1 rfl) ?_
  obtain ⟨r2, hc1, hf⟩ := bd1_some hf
  refine cV (X := List.take 0 (wX3 E a n)) (Y := List.drop 37 (wX3 E a n)) (w := (wX3 E a n)) (w' := (wX3 E a n)) (q0 := 0) lk_X3_84 hx hb hml hown hE hA (c_X3_isThere l E a n p1 r2 hc1) rfl rfl hP hD hS rfl rfl ⟨rfl, rfl, Nat.le_of_ble_eq_true rfl, Nat.le_of_ble_eq_true rfl⟩ hl.1 (As := [.int p1]) (rest := []) rfl rfl (Nat.le_of_ble_eq_true rfl) ⟨Nat.zero_le _, Nat.zero_le _⟩ dX3_note_2 (fun H locs hP hD hS => ?_)
  refine W.eq (g2 := F0 m 5 ls [.int (bI r2)]) rfl ?_
  refine lv_if_eq (tgt := 19) hx hb dX3_note_5 (by decide) (fun c3 => ?_) (fun c3 => ?_)
  · have hf := ip c3 hf
    refine lv_aload_n hx hb dX3_note_19 rfl (lv_at hl 0 rfl) ?_
    refine lv_ldc (v := (-1000000001 : Int32)) hx hb hown (hE.w tw_148) dX3_note_20 ?_
    obtain ⟨r5, n6, hc4, hf⟩ := bd2_some hf
    refine cV (X := List.take 0 (wX3 E a n)) (Y := List.drop 37 (wX3 E a n)) (w := (wX3 E a n)) (w' := (wX3 E a n6)) (q0 := 0) lk_X3_49 hx hb hml hown hE hA (c_X3_finding l E a n (-1000000001 : Int32) r5 n6 hc4) rfl rfl hP hD hS rfl rfl ⟨rfl, rfl, Nat.le_of_ble_eq_true rfl, Nat.le_of_ble_eq_true rfl⟩ hl.1 (As := [.int (-1000000001 : Int32)]) (rest := []) rfl rfl (Nat.le_of_ble_eq_true rfl) ⟨Nat.zero_le _, Nat.zero_le _⟩ dX3_note_22 (fun H locs hP hD hS => ?_)
    refine W.eq (g2 := F0 m 25 ls [.int r5]) rfl ?_
    obtain ⟨rfl, rfl⟩ := so2 hf
    exact rt_i hx hb hr hlocks hP hD hS dX3_note_25
  · have hf := im c3 hf
    refine lv_iload_n hx hb dX3_note_8 rfl (lv_at hl 2 rfl) ?_
    refine lv_iconst (v := (0 : Int32)) hx hb dX3_note_9 (by decide) ?_
    refine lv_sipush (v := (400 : Int32)) hx hb dX3_note_10 (by decide) ?_
    obtain ⟨r8, hc7, hf⟩ := bd1_some hf
    refine cS (X := List.take 0 (wX3 E a n)) (Y := List.drop 0 (wX3 E a n)) (w := (wX3 E a n)) (w' := (wX3 E a n)) lk_X3_44 hx hb hml hown hE hA (c_X3_isIn l E p2 (0 : Int32) (400 : Int32) r8 hc7) rfl rfl hP hD hS ⟨rfl, rfl, Nat.le_of_ble_eq_true rfl, Nat.le_of_ble_eq_true rfl⟩ hl.1 (As := [.int p2, .int (0 : Int32), .int (400 : Int32)]) (rest := []) rfl rfl (Nat.le_of_ble_eq_true rfl) ⟨Nat.zero_le _, Nat.zero_le _⟩ dX3_note_13 (fun H locs hP hD hS => ?_)
    refine W.eq (g2 := F0 m 16 ls [.int (bI r8)]) rfl ?_
    refine lv_if_ne (tgt := 26) hx hb dX3_note_16 (by decide) (fun c9 => ?_) (fun c9 => ?_)
    · have hf := im c9 hf
      refine lv_aload_n hx hb dX3_note_26 rfl (lv_at hl 0 rfl) ?_
      obtain ⟨n11, hc10, hf⟩ := bd1_some hf
      refine cV (X := List.take 0 (wX3 E a n)) (Y := List.drop 37 (wX3 E a n)) (w := (wX3 E a n)) (w' := (wX3 E a n11)) (q0 := 0) lk_X3_124 hx hb hml hown hE hA (c_X3_startTrial l E a n n11 hc10) rfl rfl hP hD hS rfl rfl ⟨rfl, rfl, Nat.le_of_ble_eq_true rfl, Nat.le_of_ble_eq_true rfl⟩ hl.1 (As := []) (rest := []) rfl rfl (Nat.le_of_ble_eq_true rfl) ⟨Nat.zero_le _, Nat.zero_le _⟩ dX3_note_27 (fun H locs hP hD hS => ?_)
      refine W.eq (g2 := F0 m 30 ls []) rfl ?_
      refine lv_aload_n hx hb dX3_note_30 rfl (lv_at hl 0 rfl) ?_
      refine va_get (D := E.1) (ci := 3) (v := .ref ((a 1) 0)) (C := RX3) (T := TX3) (N := 7) hx hb hts inX3 hown hE.2.1 hP 0 rfl rfl 1 (by decide) (hE.w tw_120) (fun _ h9 => h9) rfl dX3_note_31 ?_
      refine lv_iload_n hx hb dX3_note_34 rfl (lv_at hl 2 rfl) ?_
      obtain ⟨h13, hc12, hf⟩ := bd1_some hf
      obtain ⟨n_14, en_14, hf⟩ := jn1_some hf
      refine cVN (X := List.take 17 (wX3 E a n11)) (Y := List.drop 25 (wX3 E a n11)) (w := (wX3 E a n11)) (w' := (wX3 E a n_14)) (q0 := 0) lk_X3_120 hx hb hml hown hE hA (c_X0_goOn l E (a 1) (g3_trial n11) p2 h13 hc12) rfl (by rw [en_14]; rfl) hP hD hS rfl rfl ⟨rfl, rfl, Nat.le_of_ble_eq_true rfl, Nat.le_of_ble_eq_true rfl⟩ hl.1 (As := [.int p2]) (rest := []) rfl rfl (Nat.le_of_ble_eq_true rfl) ⟨Nat.zero_le _, Nat.zero_le _⟩ dX3_note_35 (fun H locs hP hD hS => ?_)
      refine W.eq (g2 := F0 m 38 ls []) rfl ?_
      refine lv_aload_n hx hb dX3_note_38 rfl (lv_at hl 0 rfl) ?_
      refine va_get (D := E.1) (ci := 3) (v := .ref ((a 1) 0)) (C := RX3) (T := TX3) (N := 7) hx hb hts inX3 hown hE.2.1 hP 0 rfl rfl 1 (by decide) (hE.w tw_120) (fun _ h9 => h9) rfl dX3_note_39 ?_
      refine va_getN (D := E.1) (ci := 0) (v := .ref ((a 1) 8)) (C := RX0) (T := TX0) (N := 10) hx hb hts inX0 hown hE.2.1 hP 17 rfl rfl 7 (by decide) (hE.w tw_45) (fun _ h9 => h9) rfl dX3_note_42 ?_
      refine lv_iload_n hx hb dX3_note_45 rfl (lv_at hl 1 rfl) ?_
      obtain ⟨hg15, hf⟩ := gd_some hf
      refine va_iald hx hb hE.2.1 hP 22 0 rfl rfl hg15 dX3_note_46 ?_
      obtain ⟨rfl, rfl⟩ := so2 hf
      exact rt_i hx hb hr hlocks hP hD hS dX3_note_47
    · have hf := ip c9 hf
      refine lv_aload_n hx hb dX3_note_19 rfl (lv_at hl 0 rfl) ?_
      refine lv_ldc (v := (-1000000001 : Int32)) hx hb hown (hE.w tw_148) dX3_note_20 ?_
      obtain ⟨r17, n18, hc16, hf⟩ := bd2_some hf
      refine cV (X := List.take 0 (wX3 E a n)) (Y := List.drop 37 (wX3 E a n)) (w := (wX3 E a n)) (w' := (wX3 E a n18)) (q0 := 0) lk_X3_49 hx hb hml hown hE hA (c_X3_finding l E a n (-1000000001 : Int32) r17 n18 hc16) rfl rfl hP hD hS rfl rfl ⟨rfl, rfl, Nat.le_of_ble_eq_true rfl, Nat.le_of_ble_eq_true rfl⟩ hl.1 (As := [.int (-1000000001 : Int32)]) (rest := []) rfl rfl (Nat.le_of_ble_eq_true rfl) ⟨Nat.zero_le _, Nat.zero_le _⟩ dX3_note_22 (fun H locs hP hD hS => ?_)
      refine W.eq (g2 := F0 m 25 ls [.int r17]) rfl ?_
      obtain ⟨rfl, rfl⟩ := so2 hf
      exact rt_i hx hb hr hlocks hP hD hS dX3_note_25
def f_X3_on (n : NS) (p1 : Int32) (p2 : Int32) (p3 : Int32) : Option (Int32 × NS) := bd1 (f_X3_isThere n p1) (fun r2 => if (bI r2) = 0 then bd2 (f_X3_finding n (-1000000001 : Int32)) (fun r5 n6 => some (r5, n6)) else bd1 (f_X3_isIn p2 (0 : Int32) (400 : Int32)) (fun r8 => if (bI r8) = 0 then bd2 (f_X3_finding n (-1000000001 : Int32)) (fun r11 n12 => some (r11, n12)) else bd1 (f_X3_isIn p3 (0 : Int32) (1 : Int32)) (fun r14 => if (bI r14) = 0 then bd2 (f_X3_finding n (-1000000001 : Int32)) (fun r25 n26 => some (r25, n26)) else bd1 (f_X3_startTrial n) (fun n17 => bd1 (f_X0_goOn (g3_trial n17) p2) (fun h19 => jn1 (s3_trial n17 h19) (fun n_20 => if p3 = 0 then gd p1 8 (some (((g0_freshes (g3_trial n_20)) p1.toNatClampNeg), n_20)) else gd p1 8 (some (((g0_dids (g3_trial n_20)) p1.toNatClampNeg), n_20))))))))
set_option maxHeartbeats 4000000 in
set_option maxRecDepth 100000 in
theorem c_X3_on (l : Launch) (E : EV) (a : Nat → Nat → Nat) (n : NS) (p1 : Int32) (p2 : Int32) (p3 : Int32)  (r : Int32) (n' : NS) (hf : f_X3_on n p1 p2 p3 = some (r, n')) : Ct l E yX3_on cX3_on 4 ((Option.some FieldType.int)) (rmk 5 108) [.ref ((a 8) 0), .int p1, .int p2, .int p3] (wX3 E a n) (wX3 E a n') (some (.int r)) := by
  refine Ct.of (by decide) (Nat.le_of_ble_eq_true rfl) ?_
  intro p e s m below meth c A ls hC hP hD hl
  obtain ⟨hx, hb, hr, hml, hown, hlocks, hE, hA⟩ := hC
  have hts : ∀ w ∈ tbl, w.before [.ref ((a 8) 0), .int p1, .int p2, .int p3].toArray s = true := fun w hw => hE.w hw
  have hS : va_S A s.heap s.heap [] := va_S.rf
  have hl : lv_has ls 4 [(0, .ref ((a 8) 0)), (1, .int p1), (2, .int p2), (3, .int p3)] := hl
  unfold f_X3_on at hf
  refine lv_aload_n hx hb dX3_on_0 rfl (lv_at hl 0 rfl) ?_
  refine lv_iload_n hx hb dX3_on_1 rfl (lv_at hl 1 rfl) ?_
  obtain ⟨r2, hc1, hf⟩ := bd1_some hf
  refine cV (X := List.take 0 (wX3 E a n)) (Y := List.drop 37 (wX3 E a n)) (w := (wX3 E a n)) (w' := (wX3 E a n)) (q0 := 0) lk_X3_84 hx hb hml hown hE hA (c_X3_isThere l E a n p1 r2 hc1) rfl rfl hP hD hS rfl rfl ⟨rfl, rfl, Nat.le_of_ble_eq_true rfl, Nat.le_of_ble_eq_true rfl⟩ hl.1 (As := [.int p1]) (rest := []) rfl rfl (Nat.le_of_ble_eq_true rfl) ⟨Nat.zero_le _, Nat.zero_le _⟩ dX3_on_2 (fun H locs hP hD hS => ?_)
  refine W.eq (g2 := F0 m 5 ls [.int (bI r2)]) rfl ?_
  refine lv_if_eq (tgt := 28) hx hb dX3_on_5 (by decide) (fun c3 => ?_) (fun c3 => ?_)
  · have hf := ip c3 hf
    refine lv_aload_n hx hb dX3_on_28 rfl (lv_at hl 0 rfl) ?_
    refine lv_ldc (v := (-1000000001 : Int32)) hx hb hown (hE.w tw_148) dX3_on_29 ?_
    obtain ⟨r5, n6, hc4, hf⟩ := bd2_some hf
    refine cV (X := List.take 0 (wX3 E a n)) (Y := List.drop 37 (wX3 E a n)) (w := (wX3 E a n)) (w' := (wX3 E a n6)) (q0 := 0) lk_X3_49 hx hb hml hown hE hA (c_X3_finding l E a n (-1000000001 : Int32) r5 n6 hc4) rfl rfl hP hD hS rfl rfl ⟨rfl, rfl, Nat.le_of_ble_eq_true rfl, Nat.le_of_ble_eq_true rfl⟩ hl.1 (As := [.int (-1000000001 : Int32)]) (rest := []) rfl rfl (Nat.le_of_ble_eq_true rfl) ⟨Nat.zero_le _, Nat.zero_le _⟩ dX3_on_31 (fun H locs hP hD hS => ?_)
    refine W.eq (g2 := F0 m 34 ls [.int r5]) rfl ?_
    obtain ⟨rfl, rfl⟩ := so2 hf
    exact rt_i hx hb hr hlocks hP hD hS dX3_on_34
  · have hf := im c3 hf
    refine lv_iload_n hx hb dX3_on_8 rfl (lv_at hl 2 rfl) ?_
    refine lv_iconst (v := (0 : Int32)) hx hb dX3_on_9 (by decide) ?_
    refine lv_sipush (v := (400 : Int32)) hx hb dX3_on_10 (by decide) ?_
    obtain ⟨r8, hc7, hf⟩ := bd1_some hf
    refine cS (X := List.take 0 (wX3 E a n)) (Y := List.drop 0 (wX3 E a n)) (w := (wX3 E a n)) (w' := (wX3 E a n)) lk_X3_44 hx hb hml hown hE hA (c_X3_isIn l E p2 (0 : Int32) (400 : Int32) r8 hc7) rfl rfl hP hD hS ⟨rfl, rfl, Nat.le_of_ble_eq_true rfl, Nat.le_of_ble_eq_true rfl⟩ hl.1 (As := [.int p2, .int (0 : Int32), .int (400 : Int32)]) (rest := []) rfl rfl (Nat.le_of_ble_eq_true rfl) ⟨Nat.zero_le _, Nat.zero_le _⟩ dX3_on_13 (fun H locs hP hD hS => ?_)
    refine W.eq (g2 := F0 m 16 ls [.int (bI r8)]) rfl ?_
    refine lv_if_eq (tgt := 28) hx hb dX3_on_16 (by decide) (fun c9 => ?_) (fun c9 => ?_)
    · have hf := ip c9 hf
      refine lv_aload_n hx hb dX3_on_28 rfl (lv_at hl 0 rfl) ?_
      refine lv_ldc (v := (-1000000001 : Int32)) hx hb hown (hE.w tw_148) dX3_on_29 ?_
      obtain ⟨r11, n12, hc10, hf⟩ := bd2_some hf
      refine cV (X := List.take 0 (wX3 E a n)) (Y := List.drop 37 (wX3 E a n)) (w := (wX3 E a n)) (w' := (wX3 E a n12)) (q0 := 0) lk_X3_49 hx hb hml hown hE hA (c_X3_finding l E a n (-1000000001 : Int32) r11 n12 hc10) rfl rfl hP hD hS rfl rfl ⟨rfl, rfl, Nat.le_of_ble_eq_true rfl, Nat.le_of_ble_eq_true rfl⟩ hl.1 (As := [.int (-1000000001 : Int32)]) (rest := []) rfl rfl (Nat.le_of_ble_eq_true rfl) ⟨Nat.zero_le _, Nat.zero_le _⟩ dX3_on_31 (fun H locs hP hD hS => ?_)
      refine W.eq (g2 := F0 m 34 ls [.int r11]) rfl ?_
      obtain ⟨rfl, rfl⟩ := so2 hf
      exact rt_i hx hb hr hlocks hP hD hS dX3_on_34
    · have hf := im c9 hf
      refine lv_iload_n hx hb dX3_on_19 rfl (lv_at hl 3 rfl) ?_
      refine lv_iconst (v := (0 : Int32)) hx hb dX3_on_20 (by decide) ?_
      refine lv_iconst (v := (1 : Int32)) hx hb dX3_on_21 (by decide) ?_
      obtain ⟨r14, hc13, hf⟩ := bd1_some hf
      refine cS (X := List.take 0 (wX3 E a n)) (Y := List.drop 0 (wX3 E a n)) (w := (wX3 E a n)) (w' := (wX3 E a n)) lk_X3_44 hx hb hml hown hE hA (c_X3_isIn l E p3 (0 : Int32) (1 : Int32) r14 hc13) rfl rfl hP hD hS ⟨rfl, rfl, Nat.le_of_ble_eq_true rfl, Nat.le_of_ble_eq_true rfl⟩ hl.1 (As := [.int p3, .int (0 : Int32), .int (1 : Int32)]) (rest := []) rfl rfl (Nat.le_of_ble_eq_true rfl) ⟨Nat.zero_le _, Nat.zero_le _⟩ dX3_on_22 (fun H locs hP hD hS => ?_)
      refine W.eq (g2 := F0 m 25 ls [.int (bI r14)]) rfl ?_
      refine lv_if_ne (tgt := 35) hx hb dX3_on_25 (by decide) (fun c15 => ?_) (fun c15 => ?_)
      · have hf := im c15 hf
        refine lv_aload_n hx hb dX3_on_35 rfl (lv_at hl 0 rfl) ?_
        obtain ⟨n17, hc16, hf⟩ := bd1_some hf
        refine cV (X := List.take 0 (wX3 E a n)) (Y := List.drop 37 (wX3 E a n)) (w := (wX3 E a n)) (w' := (wX3 E a n17)) (q0 := 0) lk_X3_124 hx hb hml hown hE hA (c_X3_startTrial l E a n n17 hc16) rfl rfl hP hD hS rfl rfl ⟨rfl, rfl, Nat.le_of_ble_eq_true rfl, Nat.le_of_ble_eq_true rfl⟩ hl.1 (As := []) (rest := []) rfl rfl (Nat.le_of_ble_eq_true rfl) ⟨Nat.zero_le _, Nat.zero_le _⟩ dX3_on_36 (fun H locs hP hD hS => ?_)
        refine W.eq (g2 := F0 m 39 ls []) rfl ?_
        refine lv_aload_n hx hb dX3_on_39 rfl (lv_at hl 0 rfl) ?_
        refine va_get (D := E.1) (ci := 3) (v := .ref ((a 1) 0)) (C := RX3) (T := TX3) (N := 7) hx hb hts inX3 hown hE.2.1 hP 0 rfl rfl 1 (by decide) (hE.w tw_120) (fun _ h9 => h9) rfl dX3_on_40 ?_
        refine lv_iload_n hx hb dX3_on_43 rfl (lv_at hl 2 rfl) ?_
        obtain ⟨h19, hc18, hf⟩ := bd1_some hf
        obtain ⟨n_20, en_20, hf⟩ := jn1_some hf
        refine cVN (X := List.take 17 (wX3 E a n17)) (Y := List.drop 25 (wX3 E a n17)) (w := (wX3 E a n17)) (w' := (wX3 E a n_20)) (q0 := 0) lk_X3_120 hx hb hml hown hE hA (c_X0_goOn l E (a 1) (g3_trial n17) p2 h19 hc18) rfl (by rw [en_20]; rfl) hP hD hS rfl rfl ⟨rfl, rfl, Nat.le_of_ble_eq_true rfl, Nat.le_of_ble_eq_true rfl⟩ hl.1 (As := [.int p2]) (rest := []) rfl rfl (Nat.le_of_ble_eq_true rfl) ⟨Nat.zero_le _, Nat.zero_le _⟩ dX3_on_44 (fun H locs hP hD hS => ?_)
        refine W.eq (g2 := F0 m 47 ls []) rfl ?_
        refine lv_iload_n hx hb dX3_on_47 rfl (lv_at hl 3 rfl) ?_
        refine lv_if_ne (tgt := 63) hx hb dX3_on_48 (by decide) (fun c21 => ?_) (fun c21 => ?_)
        · have hf := im c21 hf
          refine lv_aload_n hx hb dX3_on_63 rfl (lv_at hl 0 rfl) ?_
          refine va_get (D := E.1) (ci := 3) (v := .ref ((a 1) 0)) (C := RX3) (T := TX3) (N := 7) hx hb hts inX3 hown hE.2.1 hP 0 rfl rfl 1 (by decide) (hE.w tw_120) (fun _ h9 => h9) rfl dX3_on_64 ?_
          refine va_getN (D := E.1) (ci := 0) (v := .ref ((a 1) 9)) (C := RX0) (T := TX0) (N := 10) hx hb hts inX0 hown hE.2.1 hP 17 rfl rfl 8 (by decide) (hE.w tw_47) (fun _ h9 => h9) rfl dX3_on_67 ?_
          refine lv_iload_n hx hb dX3_on_70 rfl (lv_at hl 1 rfl) ?_
          obtain ⟨hg22, hf⟩ := gd_some hf
          refine va_iald hx hb hE.2.1 hP 23 0 rfl rfl hg22 dX3_on_71 ?_
          obtain ⟨rfl, rfl⟩ := so2 hf
          exact rt_i hx hb hr hlocks hP hD hS dX3_on_72
        · have hf := ip c21 hf
          refine lv_aload_n hx hb dX3_on_51 rfl (lv_at hl 0 rfl) ?_
          refine va_get (D := E.1) (ci := 3) (v := .ref ((a 1) 0)) (C := RX3) (T := TX3) (N := 7) hx hb hts inX3 hown hE.2.1 hP 0 rfl rfl 1 (by decide) (hE.w tw_120) (fun _ h9 => h9) rfl dX3_on_52 ?_
          refine va_getN (D := E.1) (ci := 0) (v := .ref ((a 1) 7)) (C := RX0) (T := TX0) (N := 10) hx hb hts inX0 hown hE.2.1 hP 17 rfl rfl 6 (by decide) (hE.w tw_43) (fun _ h9 => h9) rfl dX3_on_55 ?_
          refine lv_iload_n hx hb dX3_on_58 rfl (lv_at hl 1 rfl) ?_
          obtain ⟨hg23, hf⟩ := gd_some hf
          refine va_iald hx hb hE.2.1 hP 21 0 rfl rfl hg23 dX3_on_59 ?_
          refine lv_goto (tgt := 72) hx hb dX3_on_60 (by decide) ?_
          obtain ⟨rfl, rfl⟩ := so2 hf
          exact rt_i hx hb hr hlocks hP hD hS dX3_on_72
      · have hf := ip c15 hf
        refine lv_aload_n hx hb dX3_on_28 rfl (lv_at hl 0 rfl) ?_
        refine lv_ldc (v := (-1000000001 : Int32)) hx hb hown (hE.w tw_148) dX3_on_29 ?_
        obtain ⟨r25, n26, hc24, hf⟩ := bd2_some hf
        refine cV (X := List.take 0 (wX3 E a n)) (Y := List.drop 37 (wX3 E a n)) (w := (wX3 E a n)) (w' := (wX3 E a n26)) (q0 := 0) lk_X3_49 hx hb hml hown hE hA (c_X3_finding l E a n (-1000000001 : Int32) r25 n26 hc24) rfl rfl hP hD hS rfl rfl ⟨rfl, rfl, Nat.le_of_ble_eq_true rfl, Nat.le_of_ble_eq_true rfl⟩ hl.1 (As := [.int (-1000000001 : Int32)]) (rest := []) rfl rfl (Nat.le_of_ble_eq_true rfl) ⟨Nat.zero_le _, Nat.zero_le _⟩ dX3_on_31 (fun H locs hP hD hS => ?_)
        refine W.eq (g2 := F0 m 34 ls [.int r25]) rfl ?_
        obtain ⟨rfl, rfl⟩ := so2 hf
        exact rt_i hx hb hr hlocks hP hD hS dX3_on_34
def f_X3_house (n : NS) (p1 : Int32) : Option (Int32 × NS) := bd1 (f_X3_isIn p1 (0 : Int32) (400 : Int32)) (fun r2 => if (bI r2) = 0 then bd2 (f_X3_finding n (-1000000001 : Int32)) (fun r11 n12 => some (r11, n12)) else bd1 (f_X3_startTrial n) (fun n5 => bd2 (f_X0_allNotesOn (g3_trial n5) p1) (fun r7 h8 => jn1 (s3_trial n5 h8) (fun n_9 => some (r7, n_9)))))
set_option maxHeartbeats 4000000 in
set_option maxRecDepth 100000 in
theorem c_X3_house (l : Launch) (E : EV) (a : Nat → Nat → Nat) (n : NS) (p1 : Int32)  (r : Int32) (n' : NS) (hf : f_X3_house n p1 = some (r, n')) : Ct l E yX3_house cX3_house 2 ((Option.some FieldType.int)) (rmk 6 129) [.ref ((a 8) 0), .int p1] (wX3 E a n) (wX3 E a n') (some (.int r)) := by
  refine Ct.of (by decide) (Nat.le_of_ble_eq_true rfl) ?_
  intro p e s m below meth c A ls hC hP hD hl
  obtain ⟨hx, hb, hr, hml, hown, hlocks, hE, hA⟩ := hC
  have hts : ∀ w ∈ tbl, w.before [.ref ((a 8) 0), .int p1].toArray s = true := fun w hw => hE.w hw
  have hS : va_S A s.heap s.heap [] := va_S.rf
  have hl : lv_has ls 2 [(0, .ref ((a 8) 0)), (1, .int p1)] := hl
  unfold f_X3_house at hf
  refine lv_iload_n hx hb dX3_house_0 rfl (lv_at hl 1 rfl) ?_
  refine lv_iconst (v := (0 : Int32)) hx hb dX3_house_1 (by decide) ?_
  refine lv_sipush (v := (400 : Int32)) hx hb dX3_house_2 (by decide) ?_
  obtain ⟨r2, hc1, hf⟩ := bd1_some hf
  refine cS (X := List.take 0 (wX3 E a n)) (Y := List.drop 0 (wX3 E a n)) (w := (wX3 E a n)) (w' := (wX3 E a n)) lk_X3_44 hx hb hml hown hE hA (c_X3_isIn l E p1 (0 : Int32) (400 : Int32) r2 hc1) rfl rfl hP hD hS ⟨rfl, rfl, Nat.le_of_ble_eq_true rfl, Nat.le_of_ble_eq_true rfl⟩ hl.1 (As := [.int p1, .int (0 : Int32), .int (400 : Int32)]) (rest := []) rfl rfl (Nat.le_of_ble_eq_true rfl) ⟨Nat.zero_le _, Nat.zero_le _⟩ dX3_house_5 (fun H locs hP hD hS => ?_)
  refine W.eq (g2 := F0 m 8 ls [.int (bI r2)]) rfl ?_
  refine lv_if_ne (tgt := 18) hx hb dX3_house_8 (by decide) (fun c3 => ?_) (fun c3 => ?_)
  · have hf := im c3 hf
    refine lv_aload_n hx hb dX3_house_18 rfl (lv_at hl 0 rfl) ?_
    obtain ⟨n5, hc4, hf⟩ := bd1_some hf
    refine cV (X := List.take 0 (wX3 E a n)) (Y := List.drop 37 (wX3 E a n)) (w := (wX3 E a n)) (w' := (wX3 E a n5)) (q0 := 0) lk_X3_124 hx hb hml hown hE hA (c_X3_startTrial l E a n n5 hc4) rfl rfl hP hD hS rfl rfl ⟨rfl, rfl, Nat.le_of_ble_eq_true rfl, Nat.le_of_ble_eq_true rfl⟩ hl.1 (As := []) (rest := []) rfl rfl (Nat.le_of_ble_eq_true rfl) ⟨Nat.zero_le _, Nat.zero_le _⟩ dX3_house_19 (fun H locs hP hD hS => ?_)
    refine W.eq (g2 := F0 m 22 ls []) rfl ?_
    refine lv_aload_n hx hb dX3_house_22 rfl (lv_at hl 0 rfl) ?_
    refine va_get (D := E.1) (ci := 3) (v := .ref ((a 1) 0)) (C := RX3) (T := TX3) (N := 7) hx hb hts inX3 hown hE.2.1 hP 0 rfl rfl 1 (by decide) (hE.w tw_120) (fun _ h9 => h9) rfl dX3_house_23 ?_
    refine lv_iload_n hx hb dX3_house_26 rfl (lv_at hl 1 rfl) ?_
    obtain ⟨r7, h8, hc6, hf⟩ := bd2_some hf
    obtain ⟨n_9, en_9, hf⟩ := jn1_some hf
    refine cVN (X := List.take 17 (wX3 E a n5)) (Y := List.drop 25 (wX3 E a n5)) (w := (wX3 E a n5)) (w' := (wX3 E a n_9)) (q0 := 0) lk_X3_127 hx hb hml hown hE hA (c_X0_allNotesOn l E (a 1) (g3_trial n5) p1 r7 h8 hc6) rfl (by rw [en_9]; rfl) hP hD hS rfl rfl ⟨rfl, rfl, Nat.le_of_ble_eq_true rfl, Nat.le_of_ble_eq_true rfl⟩ hl.1 (As := [.int p1]) (rest := []) rfl rfl (Nat.le_of_ble_eq_true rfl) ⟨Nat.zero_le _, Nat.zero_le _⟩ dX3_house_27 (fun H locs hP hD hS => ?_)
    refine W.eq (g2 := F0 m 30 ls [.int r7]) rfl ?_
    obtain ⟨rfl, rfl⟩ := so2 hf
    exact rt_i hx hb hr hlocks hP hD hS dX3_house_30
  · have hf := ip c3 hf
    refine lv_aload_n hx hb dX3_house_11 rfl (lv_at hl 0 rfl) ?_
    refine lv_ldc (v := (-1000000001 : Int32)) hx hb hown (hE.w tw_148) dX3_house_12 ?_
    obtain ⟨r11, n12, hc10, hf⟩ := bd2_some hf
    refine cV (X := List.take 0 (wX3 E a n)) (Y := List.drop 37 (wX3 E a n)) (w := (wX3 E a n)) (w' := (wX3 E a n12)) (q0 := 0) lk_X3_49 hx hb hml hown hE hA (c_X3_finding l E a n (-1000000001 : Int32) r11 n12 hc10) rfl rfl hP hD hS rfl rfl ⟨rfl, rfl, Nat.le_of_ble_eq_true rfl, Nat.le_of_ble_eq_true rfl⟩ hl.1 (As := [.int (-1000000001 : Int32)]) (rest := []) rfl rfl (Nat.le_of_ble_eq_true rfl) ⟨Nat.zero_le _, Nat.zero_le _⟩ dX3_house_14 (fun H locs hP hD hS => ?_)
    refine W.eq (g2 := F0 m 17 ls [.int r11]) rfl ?_
    obtain ⟨rfl, rfl⟩ := so2 hf
    exact rt_i hx hb hr hlocks hP hD hS dX3_house_17
def f_X3_heard (n : NS) (p1 : Int32) (p2 : Int32) : Option (Int32 × NS) := bd1 (f_X3_isIn p1 (1 : Int32) (400 : Int32)) (fun r2 => if (bI r2) = 0 then bd2 (f_X3_finding n (-1000000001 : Int32)) (fun r5 n6 => some (r5, n6)) else bd1 (f_X3_isIn p2 (0 : Int32) (4 : Int32)) (fun r8 => if (bI r8) = 0 then bd2 (f_X3_finding n (-1000000001 : Int32)) (fun r18 n19 => some (r18, n19)) else bd1 (f_X3_startTrial n) (fun n11 => bd1 (f_X0_goOn (g3_trial n11) (p1 - (1 : Int32))) (fun h13 => jn1 (s3_trial n11 h13) (fun n_14 => bd1 (f_X0_howManyDo (g3_trial n_14) p2) (fun r16 => some (r16, n_14)))))))
set_option maxHeartbeats 4000000 in
set_option maxRecDepth 100000 in
theorem c_X3_heard (l : Launch) (E : EV) (a : Nat → Nat → Nat) (n : NS) (p1 : Int32) (p2 : Int32)  (r : Int32) (n' : NS) (hf : f_X3_heard n p1 p2 = some (r, n')) : Ct l E yX3_heard cX3_heard 3 ((Option.some FieldType.int)) (rmk 5 108) [.ref ((a 8) 0), .int p1, .int p2] (wX3 E a n) (wX3 E a n') (some (.int r)) := by
  refine Ct.of (by decide) (Nat.le_of_ble_eq_true rfl) ?_
  intro p e s m below meth c A ls hC hP hD hl
  obtain ⟨hx, hb, hr, hml, hown, hlocks, hE, hA⟩ := hC
  have hts : ∀ w ∈ tbl, w.before [.ref ((a 8) 0), .int p1, .int p2].toArray s = true := fun w hw => hE.w hw
  have hS : va_S A s.heap s.heap [] := va_S.rf
  have hl : lv_has ls 3 [(0, .ref ((a 8) 0)), (1, .int p1), (2, .int p2)] := hl
  unfold f_X3_heard at hf
  refine lv_iload_n hx hb dX3_heard_0 rfl (lv_at hl 1 rfl) ?_
  refine lv_iconst (v := (1 : Int32)) hx hb dX3_heard_1 (by decide) ?_
  refine lv_sipush (v := (400 : Int32)) hx hb dX3_heard_2 (by decide) ?_
  obtain ⟨r2, hc1, hf⟩ := bd1_some hf
  refine cS (X := List.take 0 (wX3 E a n)) (Y := List.drop 0 (wX3 E a n)) (w := (wX3 E a n)) (w' := (wX3 E a n)) lk_X3_44 hx hb hml hown hE hA (c_X3_isIn l E p1 (1 : Int32) (400 : Int32) r2 hc1) rfl rfl hP hD hS ⟨rfl, rfl, Nat.le_of_ble_eq_true rfl, Nat.le_of_ble_eq_true rfl⟩ hl.1 (As := [.int p1, .int (1 : Int32), .int (400 : Int32)]) (rest := []) rfl rfl (Nat.le_of_ble_eq_true rfl) ⟨Nat.zero_le _, Nat.zero_le _⟩ dX3_heard_5 (fun H locs hP hD hS => ?_)
  refine W.eq (g2 := F0 m 8 ls [.int (bI r2)]) rfl ?_
  refine lv_if_eq (tgt := 20) hx hb dX3_heard_8 (by decide) (fun c3 => ?_) (fun c3 => ?_)
  · have hf := ip c3 hf
    refine lv_aload_n hx hb dX3_heard_20 rfl (lv_at hl 0 rfl) ?_
    refine lv_ldc (v := (-1000000001 : Int32)) hx hb hown (hE.w tw_148) dX3_heard_21 ?_
    obtain ⟨r5, n6, hc4, hf⟩ := bd2_some hf
    refine cV (X := List.take 0 (wX3 E a n)) (Y := List.drop 37 (wX3 E a n)) (w := (wX3 E a n)) (w' := (wX3 E a n6)) (q0 := 0) lk_X3_49 hx hb hml hown hE hA (c_X3_finding l E a n (-1000000001 : Int32) r5 n6 hc4) rfl rfl hP hD hS rfl rfl ⟨rfl, rfl, Nat.le_of_ble_eq_true rfl, Nat.le_of_ble_eq_true rfl⟩ hl.1 (As := [.int (-1000000001 : Int32)]) (rest := []) rfl rfl (Nat.le_of_ble_eq_true rfl) ⟨Nat.zero_le _, Nat.zero_le _⟩ dX3_heard_23 (fun H locs hP hD hS => ?_)
    refine W.eq (g2 := F0 m 26 ls [.int r5]) rfl ?_
    obtain ⟨rfl, rfl⟩ := so2 hf
    exact rt_i hx hb hr hlocks hP hD hS dX3_heard_26
  · have hf := im c3 hf
    refine lv_iload_n hx hb dX3_heard_11 rfl (lv_at hl 2 rfl) ?_
    refine lv_iconst (v := (0 : Int32)) hx hb dX3_heard_12 (by decide) ?_
    refine lv_iconst (v := (4 : Int32)) hx hb dX3_heard_13 (by decide) ?_
    obtain ⟨r8, hc7, hf⟩ := bd1_some hf
    refine cS (X := List.take 0 (wX3 E a n)) (Y := List.drop 0 (wX3 E a n)) (w := (wX3 E a n)) (w' := (wX3 E a n)) lk_X3_44 hx hb hml hown hE hA (c_X3_isIn l E p2 (0 : Int32) (4 : Int32) r8 hc7) rfl rfl hP hD hS ⟨rfl, rfl, Nat.le_of_ble_eq_true rfl, Nat.le_of_ble_eq_true rfl⟩ hl.1 (As := [.int p2, .int (0 : Int32), .int (4 : Int32)]) (rest := []) rfl rfl (Nat.le_of_ble_eq_true rfl) ⟨Nat.zero_le _, Nat.zero_le _⟩ dX3_heard_14 (fun H locs hP hD hS => ?_)
    refine W.eq (g2 := F0 m 17 ls [.int (bI r8)]) rfl ?_
    refine lv_if_ne (tgt := 27) hx hb dX3_heard_17 (by decide) (fun c9 => ?_) (fun c9 => ?_)
    · have hf := im c9 hf
      refine lv_aload_n hx hb dX3_heard_27 rfl (lv_at hl 0 rfl) ?_
      obtain ⟨n11, hc10, hf⟩ := bd1_some hf
      refine cV (X := List.take 0 (wX3 E a n)) (Y := List.drop 37 (wX3 E a n)) (w := (wX3 E a n)) (w' := (wX3 E a n11)) (q0 := 0) lk_X3_124 hx hb hml hown hE hA (c_X3_startTrial l E a n n11 hc10) rfl rfl hP hD hS rfl rfl ⟨rfl, rfl, Nat.le_of_ble_eq_true rfl, Nat.le_of_ble_eq_true rfl⟩ hl.1 (As := []) (rest := []) rfl rfl (Nat.le_of_ble_eq_true rfl) ⟨Nat.zero_le _, Nat.zero_le _⟩ dX3_heard_28 (fun H locs hP hD hS => ?_)
      refine W.eq (g2 := F0 m 31 ls []) rfl ?_
      refine lv_aload_n hx hb dX3_heard_31 rfl (lv_at hl 0 rfl) ?_
      refine va_get (D := E.1) (ci := 3) (v := .ref ((a 1) 0)) (C := RX3) (T := TX3) (N := 7) hx hb hts inX3 hown hE.2.1 hP 0 rfl rfl 1 (by decide) (hE.w tw_120) (fun _ h9 => h9) rfl dX3_heard_32 ?_
      refine lv_iload_n hx hb dX3_heard_35 rfl (lv_at hl 1 rfl) ?_
      refine lv_iconst (v := (1 : Int32)) hx hb dX3_heard_36 (by decide) ?_
      refine lv_isub hx hb dX3_heard_37 ?_
      obtain ⟨h13, hc12, hf⟩ := bd1_some hf
      obtain ⟨n_14, en_14, hf⟩ := jn1_some hf
      refine cVN (X := List.take 17 (wX3 E a n11)) (Y := List.drop 25 (wX3 E a n11)) (w := (wX3 E a n11)) (w' := (wX3 E a n_14)) (q0 := 0) lk_X3_120 hx hb hml hown hE hA (c_X0_goOn l E (a 1) (g3_trial n11) (p1 - (1 : Int32)) h13 hc12) rfl (by rw [en_14]; rfl) hP hD hS rfl rfl ⟨rfl, rfl, Nat.le_of_ble_eq_true rfl, Nat.le_of_ble_eq_true rfl⟩ hl.1 (As := [.int (p1 - (1 : Int32))]) (rest := []) rfl rfl (Nat.le_of_ble_eq_true rfl) ⟨Nat.zero_le _, Nat.zero_le _⟩ dX3_heard_38 (fun H locs hP hD hS => ?_)
      refine W.eq (g2 := F0 m 41 ls []) rfl ?_
      refine lv_aload_n hx hb dX3_heard_41 rfl (lv_at hl 0 rfl) ?_
      refine va_get (D := E.1) (ci := 3) (v := .ref ((a 1) 0)) (C := RX3) (T := TX3) (N := 7) hx hb hts inX3 hown hE.2.1 hP 0 rfl rfl 1 (by decide) (hE.w tw_120) (fun _ h9 => h9) rfl dX3_heard_42 ?_
      refine lv_iload_n hx hb dX3_heard_45 rfl (lv_at hl 2 rfl) ?_
      obtain ⟨r16, hc15, hf⟩ := bd1_some hf
      refine cVN (X := List.take 17 (wX3 E a n_14)) (Y := List.drop 25 (wX3 E a n_14)) (w := (wX3 E a n_14)) (w' := (wX3 E a n_14)) (q0 := 0) lk_X3_130 hx hb hml hown hE hA (c_X0_howManyDo l E (a 1) (g3_trial n_14) p2 r16 hc15) rfl rfl hP hD hS rfl rfl ⟨rfl, rfl, Nat.le_of_ble_eq_true rfl, Nat.le_of_ble_eq_true rfl⟩ hl.1 (As := [.int p2]) (rest := []) rfl rfl (Nat.le_of_ble_eq_true rfl) ⟨Nat.zero_le _, Nat.zero_le _⟩ dX3_heard_46 (fun H locs hP hD hS => ?_)
      refine W.eq (g2 := F0 m 49 ls [.int r16]) rfl ?_
      obtain ⟨rfl, rfl⟩ := so2 hf
      exact rt_i hx hb hr hlocks hP hD hS dX3_heard_49
    · have hf := ip c9 hf
      refine lv_aload_n hx hb dX3_heard_20 rfl (lv_at hl 0 rfl) ?_
      refine lv_ldc (v := (-1000000001 : Int32)) hx hb hown (hE.w tw_148) dX3_heard_21 ?_
      obtain ⟨r18, n19, hc17, hf⟩ := bd2_some hf
      refine cV (X := List.take 0 (wX3 E a n)) (Y := List.drop 37 (wX3 E a n)) (w := (wX3 E a n)) (w' := (wX3 E a n19)) (q0 := 0) lk_X3_49 hx hb hml hown hE hA (c_X3_finding l E a n (-1000000001 : Int32) r18 n19 hc17) rfl rfl hP hD hS rfl rfl ⟨rfl, rfl, Nat.le_of_ble_eq_true rfl, Nat.le_of_ble_eq_true rfl⟩ hl.1 (As := [.int (-1000000001 : Int32)]) (rest := []) rfl rfl (Nat.le_of_ble_eq_true rfl) ⟨Nat.zero_le _, Nat.zero_le _⟩ dX3_heard_23 (fun H locs hP hD hS => ?_)
      refine W.eq (g2 := F0 m 26 ls [.int r18]) rfl ?_
      obtain ⟨rfl, rfl⟩ := so2 hf
      exact rt_i hx hb hr hlocks hP hD hS dX3_heard_26
def lp_X3_does_30 (p1 : Int32) (p2 : Int32) : Nat → (Int32) → (NS) → Option (Int32 × NS)
  | 0, _, _ => none
  | k_12 + 1, v3_12, n_12 => if (400 : Int32) < v3_12 then bd2 (f_X3_finding n_12 (-1000000004 : Int32)) (fun r15 n16 => some (r15, n16)) else bd1 (f_X0_deedOf (g3_trial n_12) p1) (fun r18 => if r18 = p2 then some (v3_12, n_12) else bd1 (f_X0_go (g3_trial n_12)) (fun h21 => jn1 (s3_trial n_12 h21) (fun n_22 => lp_X3_does_30 p1 p2 k_12 (v3_12 + (1 : Int32)) n_22)))
def f_X3_does (n : NS) (p1 : Int32) (p2 : Int32) : Option (Int32 × NS) := bd1 (f_X3_isThere n p1) (fun r2 => if (bI r2) = 0 then bd2 (f_X3_finding n (-1000000001 : Int32)) (fun r5 n6 => some (r5, n6)) else bd1 (f_X3_isIn p2 (0 : Int32) (4 : Int32)) (fun r8 => if (bI r8) = 0 then bd2 (f_X3_finding n (-1000000001 : Int32)) (fun r24 n25 => some (r24, n25)) else bd1 (f_X3_startTrial n) (fun n11 => lp_X3_does_30 p1 p2 FU (1 : Int32) n11)))
set_option maxHeartbeats 4000000 in
set_option maxRecDepth 100000 in
theorem c_X3_does (l : Launch) (E : EV) (a : Nat → Nat → Nat) (n : NS) (p1 : Int32) (p2 : Int32)  (r : Int32) (n' : NS) (hf : f_X3_does n p1 p2 = some (r, n')) : Ct l E yX3_does cX3_does 4 ((Option.some FieldType.int)) (rmk 4 86) [.ref ((a 8) 0), .int p1, .int p2] (wX3 E a n) (wX3 E a n') (some (.int r)) := by
  refine Ct.of (by decide) (Nat.le_of_ble_eq_true rfl) ?_
  intro p e s m below meth c A ls hC hP hD hl
  obtain ⟨hx, hb, hr, hml, hown, hlocks, hE, hA⟩ := hC
  have hts : ∀ w ∈ tbl, w.before [.ref ((a 8) 0), .int p1, .int p2].toArray s = true := fun w hw => hE.w hw
  have hS : va_S A s.heap s.heap [] := va_S.rf
  have hl : lv_has ls 4 [(0, .ref ((a 8) 0)), (1, .int p1), (2, .int p2)] := hl
  unfold f_X3_does at hf
  refine lv_aload_n hx hb dX3_does_0 rfl (lv_at hl 0 rfl) ?_
  refine lv_iload_n hx hb dX3_does_1 rfl (lv_at hl 1 rfl) ?_
  obtain ⟨r2, hc1, hf⟩ := bd1_some hf
  refine cV (X := List.take 0 (wX3 E a n)) (Y := List.drop 37 (wX3 E a n)) (w := (wX3 E a n)) (w' := (wX3 E a n)) (q0 := 0) lk_X3_84 hx hb hml hown hE hA (c_X3_isThere l E a n p1 r2 hc1) rfl rfl hP hD hS rfl rfl ⟨rfl, rfl, Nat.le_of_ble_eq_true rfl, Nat.le_of_ble_eq_true rfl⟩ hl.1 (As := [.int p1]) (rest := []) rfl rfl (Nat.le_of_ble_eq_true rfl) ⟨Nat.zero_le _, Nat.zero_le _⟩ dX3_does_2 (fun H locs hP hD hS => ?_)
  refine W.eq (g2 := F0 m 5 ls [.int (bI r2)]) rfl ?_
  refine lv_if_eq (tgt := 17) hx hb dX3_does_5 (by decide) (fun c3 => ?_) (fun c3 => ?_)
  · have hf := ip c3 hf
    refine lv_aload_n hx hb dX3_does_17 rfl (lv_at hl 0 rfl) ?_
    refine lv_ldc (v := (-1000000001 : Int32)) hx hb hown (hE.w tw_148) dX3_does_18 ?_
    obtain ⟨r5, n6, hc4, hf⟩ := bd2_some hf
    refine cV (X := List.take 0 (wX3 E a n)) (Y := List.drop 37 (wX3 E a n)) (w := (wX3 E a n)) (w' := (wX3 E a n6)) (q0 := 0) lk_X3_49 hx hb hml hown hE hA (c_X3_finding l E a n (-1000000001 : Int32) r5 n6 hc4) rfl rfl hP hD hS rfl rfl ⟨rfl, rfl, Nat.le_of_ble_eq_true rfl, Nat.le_of_ble_eq_true rfl⟩ hl.1 (As := [.int (-1000000001 : Int32)]) (rest := []) rfl rfl (Nat.le_of_ble_eq_true rfl) ⟨Nat.zero_le _, Nat.zero_le _⟩ dX3_does_20 (fun H locs hP hD hS => ?_)
    refine W.eq (g2 := F0 m 23 ls [.int r5]) rfl ?_
    obtain ⟨rfl, rfl⟩ := so2 hf
    exact rt_i hx hb hr hlocks hP hD hS dX3_does_23
  · have hf := im c3 hf
    refine lv_iload_n hx hb dX3_does_8 rfl (lv_at hl 2 rfl) ?_
    refine lv_iconst (v := (0 : Int32)) hx hb dX3_does_9 (by decide) ?_
    refine lv_iconst (v := (4 : Int32)) hx hb dX3_does_10 (by decide) ?_
    obtain ⟨r8, hc7, hf⟩ := bd1_some hf
    refine cS (X := List.take 0 (wX3 E a n)) (Y := List.drop 0 (wX3 E a n)) (w := (wX3 E a n)) (w' := (wX3 E a n)) lk_X3_44 hx hb hml hown hE hA (c_X3_isIn l E p2 (0 : Int32) (4 : Int32) r8 hc7) rfl rfl hP hD hS ⟨rfl, rfl, Nat.le_of_ble_eq_true rfl, Nat.le_of_ble_eq_true rfl⟩ hl.1 (As := [.int p2, .int (0 : Int32), .int (4 : Int32)]) (rest := []) rfl rfl (Nat.le_of_ble_eq_true rfl) ⟨Nat.zero_le _, Nat.zero_le _⟩ dX3_does_11 (fun H locs hP hD hS => ?_)
    refine W.eq (g2 := F0 m 14 ls [.int (bI r8)]) rfl ?_
    refine lv_if_ne (tgt := 24) hx hb dX3_does_14 (by decide) (fun c9 => ?_) (fun c9 => ?_)
    · have hf := im c9 hf
      refine lv_aload_n hx hb dX3_does_24 rfl (lv_at hl 0 rfl) ?_
      obtain ⟨n11, hc10, hf⟩ := bd1_some hf
      refine cV (X := List.take 0 (wX3 E a n)) (Y := List.drop 37 (wX3 E a n)) (w := (wX3 E a n)) (w' := (wX3 E a n11)) (q0 := 0) lk_X3_124 hx hb hml hown hE hA (c_X3_startTrial l E a n n11 hc10) rfl rfl hP hD hS rfl rfl ⟨rfl, rfl, Nat.le_of_ble_eq_true rfl, Nat.le_of_ble_eq_true rfl⟩ hl.1 (As := []) (rest := []) rfl rfl (Nat.le_of_ble_eq_true rfl) ⟨Nat.zero_le _, Nat.zero_le _⟩ dX3_does_25 (fun H locs hP hD hS => ?_)
      refine W.eq (g2 := F0 m 28 ls []) rfl ?_
      refine lv_iconst (v := (1 : Int32)) hx hb dX3_does_28 (by decide) ?_
      refine lv_istore_n (lv' := [(3, .int (1 : Int32)), (0, .ref ((a 8) 0)), (1, .int p1), (2, .int p2)]) hx hb dX3_does_29 rfl hl (by decide) rfl (fun ls hl => ?_)
      have L_12 : ∀ (k_12 : Nat) (v3_12 : Int32) (n_12 : NS), lp_X3_does_30 p1 p2 k_12 v3_12 n_12 = some (r, n') → ∀ (H : Heap) (locs : List Loc) (ls : Array Slot), va_P E.1 vwCl (wX3 E a n_12) H → va_D A (wX3 E a n_12) → va_S A s.heap H locs → lv_has ls 4 [(3, .int v3_12), (0, .ref ((a 8) 0)), (1, .int p1), (2, .int p2)] → W p l e (rmk 4 86) s m [.ref ((a 8) 0), .int p1, .int p2].toArray below meth c H locs 0 0 (MQ below (Qct E A (wX3 E a n') (some (.int r))) [.ref ((a 8) 0), .int p1, .int p2].toArray s 0 0 A) (F0 m 30 ls []) := by
        intro k_12
        induction k_12 with
        | zero =>
          intro v3_12 n_12 hf
          rw [lp_X3_does_30] at hf
          cases hf
        | succ k_12 ih_12 =>
          intro v3_12 n_12 hf H locs ls hP hD hS hl
          rw [lp_X3_does_30] at hf
          refine lv_iload_n hx hb dX3_does_30 rfl (lv_at hl 0 rfl) ?_
          refine lv_sipush (v := (400 : Int32)) hx hb dX3_does_31 (by decide) ?_
          refine lv_icmp_gt (tgt := 64) hx hb dX3_does_34 (by decide) (fun c13 => ?_) (fun c13 => ?_)
          · have hf := ip c13 hf
            refine lv_aload_n hx hb dX3_does_64 rfl (lv_at hl 1 rfl) ?_
            refine lv_ldc (v := (-1000000004 : Int32)) hx hb hown (hE.w tw_328) dX3_does_65 ?_
            obtain ⟨r15, n16, hc14, hf⟩ := bd2_some hf
            refine cV (X := List.take 0 (wX3 E a n_12)) (Y := List.drop 37 (wX3 E a n_12)) (w := (wX3 E a n_12)) (w' := (wX3 E a n16)) (q0 := 0) lk_X3_49 hx hb hml hown hE hA (c_X3_finding l E a n_12 (-1000000004 : Int32) r15 n16 hc14) rfl rfl hP hD hS rfl rfl ⟨rfl, rfl, Nat.le_of_ble_eq_true rfl, Nat.le_of_ble_eq_true rfl⟩ hl.1 (As := [.int (-1000000004 : Int32)]) (rest := []) rfl rfl (Nat.le_of_ble_eq_true rfl) ⟨Nat.zero_le _, Nat.zero_le _⟩ dX3_does_67 (fun H locs hP hD hS => ?_)
            refine W.eq (g2 := F0 m 70 ls [.int r15]) rfl ?_
            obtain ⟨rfl, rfl⟩ := so2 hf
            exact rt_i hx hb hr hlocks hP hD hS dX3_does_70
          · have hf := im c13 hf
            refine lv_aload_n hx hb dX3_does_37 rfl (lv_at hl 1 rfl) ?_
            refine va_get (D := E.1) (ci := 3) (v := .ref ((a 1) 0)) (C := RX3) (T := TX3) (N := 7) hx hb hts inX3 hown hE.2.1 hP 0 rfl rfl 1 (by decide) (hE.w tw_120) (fun _ h9 => h9) rfl dX3_does_38 ?_
            refine lv_iload_n hx hb dX3_does_41 rfl (lv_at hl 2 rfl) ?_
            obtain ⟨r18, hc17, hf⟩ := bd1_some hf
            refine cVN (X := List.take 17 (wX3 E a n_12)) (Y := List.drop 25 (wX3 E a n_12)) (w := (wX3 E a n_12)) (w' := (wX3 E a n_12)) (q0 := 0) lk_X3_100 hx hb hml hown hE hA (c_X0_deedOf l E (a 1) (g3_trial n_12) p1 r18 hc17) rfl rfl hP hD hS rfl rfl ⟨rfl, rfl, Nat.le_of_ble_eq_true rfl, Nat.le_of_ble_eq_true rfl⟩ hl.1 (As := [.int p1]) (rest := []) rfl rfl (Nat.le_of_ble_eq_true rfl) ⟨Nat.zero_le _, Nat.zero_le _⟩ dX3_does_42 (fun H locs hP hD hS => ?_)
            refine W.eq (g2 := F0 m 45 ls [.int r18]) rfl ?_
            refine lv_iload_n hx hb dX3_does_45 rfl (lv_at hl 3 rfl) ?_
            refine lv_icmp_ne (tgt := 51) hx hb dX3_does_46 (by decide) (fun c19 => ?_) (fun c19 => ?_)
            · have hf := im c19 hf
              refine lv_aload_n hx hb dX3_does_51 rfl (lv_at hl 1 rfl) ?_
              refine va_get (D := E.1) (ci := 3) (v := .ref ((a 1) 0)) (C := RX3) (T := TX3) (N := 7) hx hb hts inX3 hown hE.2.1 hP 0 rfl rfl 1 (by decide) (hE.w tw_120) (fun _ h9 => h9) rfl dX3_does_52 ?_
              obtain ⟨h21, hc20, hf⟩ := bd1_some hf
              obtain ⟨n_22, en_22, hf⟩ := jn1_some hf
              refine cVN (X := List.take 17 (wX3 E a n_12)) (Y := List.drop 25 (wX3 E a n_12)) (w := (wX3 E a n_12)) (w' := (wX3 E a n_22)) (q0 := 0) lk_X3_133 hx hb hml hown hE hA (c_X0_go l E (a 1) (g3_trial n_12) h21 hc20) rfl (by rw [en_22]; rfl) hP hD hS rfl rfl ⟨rfl, rfl, Nat.le_of_ble_eq_true rfl, Nat.le_of_ble_eq_true rfl⟩ hl.1 (As := []) (rest := []) rfl rfl (Nat.le_of_ble_eq_true rfl) ⟨Nat.zero_le _, Nat.zero_le _⟩ dX3_does_55 (fun H locs hP hD hS => ?_)
              refine W.eq (g2 := F0 m 58 ls []) rfl ?_
              refine lv_iinc (v := (v3_12 + (1 : Int32))) (lv' := [(3, .int (v3_12 + (1 : Int32))), (0, .ref ((a 8) 0)), (1, .int p1), (2, .int p2)]) hx hb dX3_does_58 hl (k := 0) rfl rfl (by decide) rfl (fun ls hl => ?_)
              refine lv_goto (tgt := 30) hx hb dX3_does_61 (by decide) ?_
              exact ih_12 _ _ hf _ _ _ hP hD hS (lv_sub hl [0, 1, 2, 3] rfl)
            · have hf := ip c19 hf
              refine lv_iload_n hx hb dX3_does_49 rfl (lv_at hl 0 rfl) ?_
              obtain ⟨rfl, rfl⟩ := so2 hf
              exact rt_i hx hb hr hlocks hP hD hS dX3_does_50
      exact L_12 _ _ _ hf _ _ _ hP hD hS (lv_sub hl [0, 1, 2, 3] rfl)
    · have hf := ip c9 hf
      refine lv_aload_n hx hb dX3_does_17 rfl (lv_at hl 0 rfl) ?_
      refine lv_ldc (v := (-1000000001 : Int32)) hx hb hown (hE.w tw_148) dX3_does_18 ?_
      obtain ⟨r24, n25, hc23, hf⟩ := bd2_some hf
      refine cV (X := List.take 0 (wX3 E a n)) (Y := List.drop 37 (wX3 E a n)) (w := (wX3 E a n)) (w' := (wX3 E a n25)) (q0 := 0) lk_X3_49 hx hb hml hown hE hA (c_X3_finding l E a n (-1000000001 : Int32) r24 n25 hc23) rfl rfl hP hD hS rfl rfl ⟨rfl, rfl, Nat.le_of_ble_eq_true rfl, Nat.le_of_ble_eq_true rfl⟩ hl.1 (As := [.int (-1000000001 : Int32)]) (rest := []) rfl rfl (Nat.le_of_ble_eq_true rfl) ⟨Nat.zero_le _, Nat.zero_le _⟩ dX3_does_20 (fun H locs hP hD hS => ?_)
      refine W.eq (g2 := F0 m 23 ls [.int r24]) rfl ?_
      obtain ⟨rfl, rfl⟩ := so2 hf
      exact rt_i hx hb hr hlocks hP hD hS dX3_does_23
def lp_X3_comes_34 (p1 : Int32) (p2 : Int32) : Nat → (Int32) → (NS) → Option (Int32 × NS)
  | 0, _, _ => none
  | k_12 + 1, v3_12, n_12 => if (400 : Int32) < v3_12 then bd2 (f_X3_finding n_12 (-1000000004 : Int32)) (fun r15 n16 => some (r15, n16)) else gd p1 8 (if ((g0_notes (g3_trial n_12)) p1.toNatClampNeg) < p2 then bd1 (f_X0_go (g3_trial n_12)) (fun h20 => jn1 (s3_trial n_12 h20) (fun n_21 => lp_X3_comes_34 p1 p2 k_12 (v3_12 + (1 : Int32)) n_21)) else some (v3_12, n_12))
def f_X3_comes (n : NS) (p1 : Int32) (p2 : Int32) : Option (Int32 × NS) := bd1 (f_X3_isThere n p1) (fun r2 => if (bI r2) = 0 then bd2 (f_X3_finding n (-1000000001 : Int32)) (fun r5 n6 => some (r5, n6)) else bd1 (f_X3_isIn p2 (-9999 : Int32) (9999 : Int32)) (fun r8 => if (bI r8) = 0 then bd2 (f_X3_finding n (-1000000001 : Int32)) (fun r23 n24 => some (r23, n24)) else bd1 (f_X3_startTrial n) (fun n11 => lp_X3_comes_34 p1 p2 FU (0 : Int32) n11)))
set_option maxHeartbeats 4000000 in
set_option maxRecDepth 100000 in
theorem c_X3_comes (l : Launch) (E : EV) (a : Nat → Nat → Nat) (n : NS) (p1 : Int32) (p2 : Int32)  (r : Int32) (n' : NS) (hf : f_X3_comes n p1 p2 = some (r, n')) : Ct l E yX3_comes cX3_comes 4 ((Option.some FieldType.int)) (rmk 4 86) [.ref ((a 8) 0), .int p1, .int p2] (wX3 E a n) (wX3 E a n') (some (.int r)) := by
  refine Ct.of (by decide) (Nat.le_of_ble_eq_true rfl) ?_
  intro p e s m below meth c A ls hC hP hD hl
  obtain ⟨hx, hb, hr, hml, hown, hlocks, hE, hA⟩ := hC
  have hts : ∀ w ∈ tbl, w.before [.ref ((a 8) 0), .int p1, .int p2].toArray s = true := fun w hw => hE.w hw
  have hS : va_S A s.heap s.heap [] := va_S.rf
  have hl : lv_has ls 4 [(0, .ref ((a 8) 0)), (1, .int p1), (2, .int p2)] := hl
  unfold f_X3_comes at hf
  refine lv_aload_n hx hb dX3_comes_0 rfl (lv_at hl 0 rfl) ?_
  refine lv_iload_n hx hb dX3_comes_1 rfl (lv_at hl 1 rfl) ?_
  obtain ⟨r2, hc1, hf⟩ := bd1_some hf
  refine cV (X := List.take 0 (wX3 E a n)) (Y := List.drop 37 (wX3 E a n)) (w := (wX3 E a n)) (w' := (wX3 E a n)) (q0 := 0) lk_X3_84 hx hb hml hown hE hA (c_X3_isThere l E a n p1 r2 hc1) rfl rfl hP hD hS rfl rfl ⟨rfl, rfl, Nat.le_of_ble_eq_true rfl, Nat.le_of_ble_eq_true rfl⟩ hl.1 (As := [.int p1]) (rest := []) rfl rfl (Nat.le_of_ble_eq_true rfl) ⟨Nat.zero_le _, Nat.zero_le _⟩ dX3_comes_2 (fun H locs hP hD hS => ?_)
  refine W.eq (g2 := F0 m 5 ls [.int (bI r2)]) rfl ?_
  refine lv_if_eq (tgt := 21) hx hb dX3_comes_5 (by decide) (fun c3 => ?_) (fun c3 => ?_)
  · have hf := ip c3 hf
    refine lv_aload_n hx hb dX3_comes_21 rfl (lv_at hl 0 rfl) ?_
    refine lv_ldc (v := (-1000000001 : Int32)) hx hb hown (hE.w tw_148) dX3_comes_22 ?_
    obtain ⟨r5, n6, hc4, hf⟩ := bd2_some hf
    refine cV (X := List.take 0 (wX3 E a n)) (Y := List.drop 37 (wX3 E a n)) (w := (wX3 E a n)) (w' := (wX3 E a n6)) (q0 := 0) lk_X3_49 hx hb hml hown hE hA (c_X3_finding l E a n (-1000000001 : Int32) r5 n6 hc4) rfl rfl hP hD hS rfl rfl ⟨rfl, rfl, Nat.le_of_ble_eq_true rfl, Nat.le_of_ble_eq_true rfl⟩ hl.1 (As := [.int (-1000000001 : Int32)]) (rest := []) rfl rfl (Nat.le_of_ble_eq_true rfl) ⟨Nat.zero_le _, Nat.zero_le _⟩ dX3_comes_24 (fun H locs hP hD hS => ?_)
    refine W.eq (g2 := F0 m 27 ls [.int r5]) rfl ?_
    obtain ⟨rfl, rfl⟩ := so2 hf
    exact rt_i hx hb hr hlocks hP hD hS dX3_comes_27
  · have hf := im c3 hf
    refine lv_iload_n hx hb dX3_comes_8 rfl (lv_at hl 2 rfl) ?_
    refine lv_sipush (v := (-9999 : Int32)) hx hb dX3_comes_9 (by decide) ?_
    refine lv_sipush (v := (9999 : Int32)) hx hb dX3_comes_12 (by decide) ?_
    obtain ⟨r8, hc7, hf⟩ := bd1_some hf
    refine cS (X := List.take 0 (wX3 E a n)) (Y := List.drop 0 (wX3 E a n)) (w := (wX3 E a n)) (w' := (wX3 E a n)) lk_X3_44 hx hb hml hown hE hA (c_X3_isIn l E p2 (-9999 : Int32) (9999 : Int32) r8 hc7) rfl rfl hP hD hS ⟨rfl, rfl, Nat.le_of_ble_eq_true rfl, Nat.le_of_ble_eq_true rfl⟩ hl.1 (As := [.int p2, .int (-9999 : Int32), .int (9999 : Int32)]) (rest := []) rfl rfl (Nat.le_of_ble_eq_true rfl) ⟨Nat.zero_le _, Nat.zero_le _⟩ dX3_comes_15 (fun H locs hP hD hS => ?_)
    refine W.eq (g2 := F0 m 18 ls [.int (bI r8)]) rfl ?_
    refine lv_if_ne (tgt := 28) hx hb dX3_comes_18 (by decide) (fun c9 => ?_) (fun c9 => ?_)
    · have hf := im c9 hf
      refine lv_aload_n hx hb dX3_comes_28 rfl (lv_at hl 0 rfl) ?_
      obtain ⟨n11, hc10, hf⟩ := bd1_some hf
      refine cV (X := List.take 0 (wX3 E a n)) (Y := List.drop 37 (wX3 E a n)) (w := (wX3 E a n)) (w' := (wX3 E a n11)) (q0 := 0) lk_X3_124 hx hb hml hown hE hA (c_X3_startTrial l E a n n11 hc10) rfl rfl hP hD hS rfl rfl ⟨rfl, rfl, Nat.le_of_ble_eq_true rfl, Nat.le_of_ble_eq_true rfl⟩ hl.1 (As := []) (rest := []) rfl rfl (Nat.le_of_ble_eq_true rfl) ⟨Nat.zero_le _, Nat.zero_le _⟩ dX3_comes_29 (fun H locs hP hD hS => ?_)
      refine W.eq (g2 := F0 m 32 ls []) rfl ?_
      refine lv_iconst (v := (0 : Int32)) hx hb dX3_comes_32 (by decide) ?_
      refine lv_istore_n (lv' := [(3, .int (0 : Int32)), (0, .ref ((a 8) 0)), (1, .int p1), (2, .int p2)]) hx hb dX3_comes_33 rfl hl (by decide) rfl (fun ls hl => ?_)
      have L_12 : ∀ (k_12 : Nat) (v3_12 : Int32) (n_12 : NS), lp_X3_comes_34 p1 p2 k_12 v3_12 n_12 = some (r, n') → ∀ (H : Heap) (locs : List Loc) (ls : Array Slot), va_P E.1 vwCl (wX3 E a n_12) H → va_D A (wX3 E a n_12) → va_S A s.heap H locs → lv_has ls 4 [(3, .int v3_12), (0, .ref ((a 8) 0)), (1, .int p1), (2, .int p2)] → W p l e (rmk 4 86) s m [.ref ((a 8) 0), .int p1, .int p2].toArray below meth c H locs 0 0 (MQ below (Qct E A (wX3 E a n') (some (.int r))) [.ref ((a 8) 0), .int p1, .int p2].toArray s 0 0 A) (F0 m 34 ls []) := by
        intro k_12
        induction k_12 with
        | zero =>
          intro v3_12 n_12 hf
          rw [lp_X3_comes_34] at hf
          cases hf
        | succ k_12 ih_12 =>
          intro v3_12 n_12 hf H locs ls hP hD hS hl
          rw [lp_X3_comes_34] at hf
          refine lv_iload_n hx hb dX3_comes_34 rfl (lv_at hl 0 rfl) ?_
          refine lv_sipush (v := (400 : Int32)) hx hb dX3_comes_35 (by decide) ?_
          refine lv_icmp_gt (tgt := 69) hx hb dX3_comes_38 (by decide) (fun c13 => ?_) (fun c13 => ?_)
          · have hf := ip c13 hf
            refine lv_aload_n hx hb dX3_comes_69 rfl (lv_at hl 1 rfl) ?_
            refine lv_ldc (v := (-1000000004 : Int32)) hx hb hown (hE.w tw_328) dX3_comes_70 ?_
            obtain ⟨r15, n16, hc14, hf⟩ := bd2_some hf
            refine cV (X := List.take 0 (wX3 E a n_12)) (Y := List.drop 37 (wX3 E a n_12)) (w := (wX3 E a n_12)) (w' := (wX3 E a n16)) (q0 := 0) lk_X3_49 hx hb hml hown hE hA (c_X3_finding l E a n_12 (-1000000004 : Int32) r15 n16 hc14) rfl rfl hP hD hS rfl rfl ⟨rfl, rfl, Nat.le_of_ble_eq_true rfl, Nat.le_of_ble_eq_true rfl⟩ hl.1 (As := [.int (-1000000004 : Int32)]) (rest := []) rfl rfl (Nat.le_of_ble_eq_true rfl) ⟨Nat.zero_le _, Nat.zero_le _⟩ dX3_comes_72 (fun H locs hP hD hS => ?_)
            refine W.eq (g2 := F0 m 75 ls [.int r15]) rfl ?_
            obtain ⟨rfl, rfl⟩ := so2 hf
            exact rt_i hx hb hr hlocks hP hD hS dX3_comes_75
          · have hf := im c13 hf
            refine lv_aload_n hx hb dX3_comes_41 rfl (lv_at hl 1 rfl) ?_
            refine va_get (D := E.1) (ci := 3) (v := .ref ((a 1) 0)) (C := RX3) (T := TX3) (N := 7) hx hb hts inX3 hown hE.2.1 hP 0 rfl rfl 1 (by decide) (hE.w tw_120) (fun _ h9 => h9) rfl dX3_comes_42 ?_
            refine va_getN (D := E.1) (ci := 0) (v := .ref ((a 1) 8)) (C := RX0) (T := TX0) (N := 10) hx hb hts inX0 hown hE.2.1 hP 17 rfl rfl 7 (by decide) (hE.w tw_45) (fun _ h9 => h9) rfl dX3_comes_45 ?_
            refine lv_iload_n hx hb dX3_comes_48 rfl (lv_at hl 2 rfl) ?_
            obtain ⟨hg17, hf⟩ := gd_some hf
            refine va_iald hx hb hE.2.1 hP 22 0 rfl rfl hg17 dX3_comes_49 ?_
            refine lv_iload_n hx hb dX3_comes_50 rfl (lv_at hl 3 rfl) ?_
            refine lv_icmp_lt (tgt := 56) hx hb dX3_comes_51 (by decide) (fun c18 => ?_) (fun c18 => ?_)
            · have hf := ip c18 hf
              refine lv_aload_n hx hb dX3_comes_56 rfl (lv_at hl 1 rfl) ?_
              refine va_get (D := E.1) (ci := 3) (v := .ref ((a 1) 0)) (C := RX3) (T := TX3) (N := 7) hx hb hts inX3 hown hE.2.1 hP 0 rfl rfl 1 (by decide) (hE.w tw_120) (fun _ h9 => h9) rfl dX3_comes_57 ?_
              obtain ⟨h20, hc19, hf⟩ := bd1_some hf
              obtain ⟨n_21, en_21, hf⟩ := jn1_some hf
              refine cVN (X := List.take 17 (wX3 E a n_12)) (Y := List.drop 25 (wX3 E a n_12)) (w := (wX3 E a n_12)) (w' := (wX3 E a n_21)) (q0 := 0) lk_X3_133 hx hb hml hown hE hA (c_X0_go l E (a 1) (g3_trial n_12) h20 hc19) rfl (by rw [en_21]; rfl) hP hD hS rfl rfl ⟨rfl, rfl, Nat.le_of_ble_eq_true rfl, Nat.le_of_ble_eq_true rfl⟩ hl.1 (As := []) (rest := []) rfl rfl (Nat.le_of_ble_eq_true rfl) ⟨Nat.zero_le _, Nat.zero_le _⟩ dX3_comes_60 (fun H locs hP hD hS => ?_)
              refine W.eq (g2 := F0 m 63 ls []) rfl ?_
              refine lv_iinc (v := (v3_12 + (1 : Int32))) (lv' := [(3, .int (v3_12 + (1 : Int32))), (0, .ref ((a 8) 0)), (1, .int p1), (2, .int p2)]) hx hb dX3_comes_63 hl (k := 0) rfl rfl (by decide) rfl (fun ls hl => ?_)
              refine lv_goto (tgt := 34) hx hb dX3_comes_66 (by decide) ?_
              exact ih_12 _ _ hf _ _ _ hP hD hS (lv_sub hl [0, 1, 2, 3] rfl)
            · have hf := im c18 hf
              refine lv_iload_n hx hb dX3_comes_54 rfl (lv_at hl 0 rfl) ?_
              obtain ⟨rfl, rfl⟩ := so2 hf
              exact rt_i hx hb hr hlocks hP hD hS dX3_comes_55
      exact L_12 _ _ _ hf _ _ _ hP hD hS (lv_sub hl [0, 1, 2, 3] rfl)
    · have hf := ip c9 hf
      refine lv_aload_n hx hb dX3_comes_21 rfl (lv_at hl 0 rfl) ?_
      refine lv_ldc (v := (-1000000001 : Int32)) hx hb hown (hE.w tw_148) dX3_comes_22 ?_
      obtain ⟨r23, n24, hc22, hf⟩ := bd2_some hf
      refine cV (X := List.take 0 (wX3 E a n)) (Y := List.drop 37 (wX3 E a n)) (w := (wX3 E a n)) (w' := (wX3 E a n24)) (q0 := 0) lk_X3_49 hx hb hml hown hE hA (c_X3_finding l E a n (-1000000001 : Int32) r23 n24 hc22) rfl rfl hP hD hS rfl rfl ⟨rfl, rfl, Nat.le_of_ble_eq_true rfl, Nat.le_of_ble_eq_true rfl⟩ hl.1 (As := [.int (-1000000001 : Int32)]) (rest := []) rfl rfl (Nat.le_of_ble_eq_true rfl) ⟨Nat.zero_le _, Nat.zero_le _⟩ dX3_comes_24 (fun H locs hP hD hS => ?_)
      refine W.eq (g2 := F0 m 27 ls [.int r23]) rfl ?_
      obtain ⟨rfl, rfl⟩ := so2 hf
      exact rt_i hx hb hr hlocks hP hD hS dX3_comes_27
def lp_X3_place_44 (p1 : Int32) (p2 : Int32) : Nat → (Int32) → (Int32) → (Int32) → (NS) → Option (Int32 × NS)
  | 0, _, _, _, _ => none
  | k_16 + 1, v5_16, v4_16, v3_16, n_16 => if (g0_people (g3_house n_16)) ≤ v5_16 then if 0 ≤ v4_16 then some (v4_16, n_16) else bd2 (f_X3_finding n_16 (-1000000004 : Int32)) (fun r20 n21 => some (r20, n21)) else bd3 (if v5_16 = p1 then some (v4_16, v3_16, n_16) else bd1 (f_X3_startTrial n_16) (fun n29 => bd1 (f_X0_changeSeats (g3_trial n29) p1 v5_16) (fun h31 => jn1 (s3_trial n29 h31) (fun n_32 => bd2 (f_X0_allNotesOn (g3_trial n_32) p2) (fun r34 h35 => jn1 (s3_trial n_32 h35) (fun n_36 => if r34 ≤ v3_16 then some (v4_16, v3_16, n_36) else some (v5_16, r34, n_36))))))) (fun x23 x24 n25 => lp_X3_place_44 p1 p2 k_16 (v5_16 + (1 : Int32)) x23 x24 n25)
def f_X3_place (n : NS) (p1 : Int32) (p2 : Int32) : Option (Int32 × NS) := bd1 (f_X3_isThere n p1) (fun r2 => if (bI r2) = 0 then bd2 (f_X3_finding n (-1000000001 : Int32)) (fun r5 n6 => some (r5, n6)) else bd1 (f_X3_isIn p2 (1 : Int32) (100 : Int32)) (fun r8 => if (bI r8) = 0 then bd2 (f_X3_finding n (-1000000001 : Int32)) (fun r39 n40 => some (r39, n40)) else bd1 (f_X3_startTrial n) (fun n11 => bd2 (f_X0_allNotesOn (g3_trial n11) p2) (fun r13 h14 => jn1 (s3_trial n11 h14) (fun n_15 => lp_X3_place_44 p1 p2 FU (0 : Int32) (-1 : Int32) r13 n_15)))))
set_option maxHeartbeats 4000000 in
set_option maxRecDepth 100000 in
theorem c_X3_place (l : Launch) (E : EV) (a : Nat → Nat → Nat) (n : NS) (p1 : Int32) (p2 : Int32)  (r : Int32) (n' : NS) (hf : f_X3_place n p1 p2 = some (r, n')) : Ct l E yX3_place cX3_place 7 ((Option.some FieldType.int)) (rmk 6 129) [.ref ((a 8) 0), .int p1, .int p2] (wX3 E a n) (wX3 E a n') (some (.int r)) := by
  refine Ct.of (by decide) (Nat.le_of_ble_eq_true rfl) ?_
  intro p e s m below meth c A ls hC hP hD hl
  obtain ⟨hx, hb, hr, hml, hown, hlocks, hE, hA⟩ := hC
  have hts : ∀ w ∈ tbl, w.before [.ref ((a 8) 0), .int p1, .int p2].toArray s = true := fun w hw => hE.w hw
  have hS : va_S A s.heap s.heap [] := va_S.rf
  have hl : lv_has ls 7 [(0, .ref ((a 8) 0)), (1, .int p1), (2, .int p2)] := hl
  unfold f_X3_place at hf
  refine lv_aload_n hx hb dX3_place_0 rfl (lv_at hl 0 rfl) ?_
  refine lv_iload_n hx hb dX3_place_1 rfl (lv_at hl 1 rfl) ?_
  obtain ⟨r2, hc1, hf⟩ := bd1_some hf
  refine cV (X := List.take 0 (wX3 E a n)) (Y := List.drop 37 (wX3 E a n)) (w := (wX3 E a n)) (w' := (wX3 E a n)) (q0 := 0) lk_X3_84 hx hb hml hown hE hA (c_X3_isThere l E a n p1 r2 hc1) rfl rfl hP hD hS rfl rfl ⟨rfl, rfl, Nat.le_of_ble_eq_true rfl, Nat.le_of_ble_eq_true rfl⟩ hl.1 (As := [.int p1]) (rest := []) rfl rfl (Nat.le_of_ble_eq_true rfl) ⟨Nat.zero_le _, Nat.zero_le _⟩ dX3_place_2 (fun H locs hP hD hS => ?_)
  refine W.eq (g2 := F0 m 5 ls [.int (bI r2)]) rfl ?_
  refine lv_if_eq (tgt := 18) hx hb dX3_place_5 (by decide) (fun c3 => ?_) (fun c3 => ?_)
  · have hf := ip c3 hf
    refine lv_aload_n hx hb dX3_place_18 rfl (lv_at hl 0 rfl) ?_
    refine lv_ldc (v := (-1000000001 : Int32)) hx hb hown (hE.w tw_148) dX3_place_19 ?_
    obtain ⟨r5, n6, hc4, hf⟩ := bd2_some hf
    refine cV (X := List.take 0 (wX3 E a n)) (Y := List.drop 37 (wX3 E a n)) (w := (wX3 E a n)) (w' := (wX3 E a n6)) (q0 := 0) lk_X3_49 hx hb hml hown hE hA (c_X3_finding l E a n (-1000000001 : Int32) r5 n6 hc4) rfl rfl hP hD hS rfl rfl ⟨rfl, rfl, Nat.le_of_ble_eq_true rfl, Nat.le_of_ble_eq_true rfl⟩ hl.1 (As := [.int (-1000000001 : Int32)]) (rest := []) rfl rfl (Nat.le_of_ble_eq_true rfl) ⟨Nat.zero_le _, Nat.zero_le _⟩ dX3_place_21 (fun H locs hP hD hS => ?_)
    refine W.eq (g2 := F0 m 24 ls [.int r5]) rfl ?_
    obtain ⟨rfl, rfl⟩ := so2 hf
    exact rt_i hx hb hr hlocks hP hD hS dX3_place_24
  · have hf := im c3 hf
    refine lv_iload_n hx hb dX3_place_8 rfl (lv_at hl 2 rfl) ?_
    refine lv_iconst (v := (1 : Int32)) hx hb dX3_place_9 (by decide) ?_
    refine lv_bipush (v := (100 : Int32)) hx hb dX3_place_10 (by decide) ?_
    obtain ⟨r8, hc7, hf⟩ := bd1_some hf
    refine cS (X := List.take 0 (wX3 E a n)) (Y := List.drop 0 (wX3 E a n)) (w := (wX3 E a n)) (w' := (wX3 E a n)) lk_X3_44 hx hb hml hown hE hA (c_X3_isIn l E p2 (1 : Int32) (100 : Int32) r8 hc7) rfl rfl hP hD hS ⟨rfl, rfl, Nat.le_of_ble_eq_true rfl, Nat.le_of_ble_eq_true rfl⟩ hl.1 (As := [.int p2, .int (1 : Int32), .int (100 : Int32)]) (rest := []) rfl rfl (Nat.le_of_ble_eq_true rfl) ⟨Nat.zero_le _, Nat.zero_le _⟩ dX3_place_12 (fun H locs hP hD hS => ?_)
    refine W.eq (g2 := F0 m 15 ls [.int (bI r8)]) rfl ?_
    refine lv_if_ne (tgt := 25) hx hb dX3_place_15 (by decide) (fun c9 => ?_) (fun c9 => ?_)
    · have hf := im c9 hf
      refine lv_aload_n hx hb dX3_place_25 rfl (lv_at hl 0 rfl) ?_
      obtain ⟨n11, hc10, hf⟩ := bd1_some hf
      refine cV (X := List.take 0 (wX3 E a n)) (Y := List.drop 37 (wX3 E a n)) (w := (wX3 E a n)) (w' := (wX3 E a n11)) (q0 := 0) lk_X3_124 hx hb hml hown hE hA (c_X3_startTrial l E a n n11 hc10) rfl rfl hP hD hS rfl rfl ⟨rfl, rfl, Nat.le_of_ble_eq_true rfl, Nat.le_of_ble_eq_true rfl⟩ hl.1 (As := []) (rest := []) rfl rfl (Nat.le_of_ble_eq_true rfl) ⟨Nat.zero_le _, Nat.zero_le _⟩ dX3_place_26 (fun H locs hP hD hS => ?_)
      refine W.eq (g2 := F0 m 29 ls []) rfl ?_
      refine lv_aload_n hx hb dX3_place_29 rfl (lv_at hl 0 rfl) ?_
      refine va_get (D := E.1) (ci := 3) (v := .ref ((a 1) 0)) (C := RX3) (T := TX3) (N := 7) hx hb hts inX3 hown hE.2.1 hP 0 rfl rfl 1 (by decide) (hE.w tw_120) (fun _ h9 => h9) rfl dX3_place_30 ?_
      refine lv_iload_n hx hb dX3_place_33 rfl (lv_at hl 2 rfl) ?_
      obtain ⟨r13, h14, hc12, hf⟩ := bd2_some hf
      obtain ⟨n_15, en_15, hf⟩ := jn1_some hf
      refine cVN (X := List.take 17 (wX3 E a n11)) (Y := List.drop 25 (wX3 E a n11)) (w := (wX3 E a n11)) (w' := (wX3 E a n_15)) (q0 := 0) lk_X3_127 hx hb hml hown hE hA (c_X0_allNotesOn l E (a 1) (g3_trial n11) p2 r13 h14 hc12) rfl (by rw [en_15]; rfl) hP hD hS rfl rfl ⟨rfl, rfl, Nat.le_of_ble_eq_true rfl, Nat.le_of_ble_eq_true rfl⟩ hl.1 (As := [.int p2]) (rest := []) rfl rfl (Nat.le_of_ble_eq_true rfl) ⟨Nat.zero_le _, Nat.zero_le _⟩ dX3_place_34 (fun H locs hP hD hS => ?_)
      refine W.eq (g2 := F0 m 37 ls [.int r13]) rfl ?_
      refine lv_istore_n (lv' := [(3, .int r13), (0, .ref ((a 8) 0)), (1, .int p1), (2, .int p2)]) hx hb dX3_place_37 rfl hl (by decide) rfl (fun ls hl => ?_)
      refine lv_iconst (v := (-1 : Int32)) hx hb dX3_place_38 (by decide) ?_
      refine lv_istore (lv' := [(4, .int (-1 : Int32)), (3, .int r13), (0, .ref ((a 8) 0)), (1, .int p1), (2, .int p2)]) hx hb dX3_place_39 hl (by decide) rfl (fun ls hl => ?_)
      refine lv_iconst (v := (0 : Int32)) hx hb dX3_place_41 (by decide) ?_
      refine lv_istore (lv' := [(5, .int (0 : Int32)), (4, .int (-1 : Int32)), (3, .int r13), (0, .ref ((a 8) 0)), (1, .int p1), (2, .int p2)]) hx hb dX3_place_42 hl (by decide) rfl (fun ls hl => ?_)
      have L_16 : ∀ (k_16 : Nat) (v5_16 : Int32) (v4_16 : Int32) (v3_16 : Int32) (n_16 : NS), lp_X3_place_44 p1 p2 k_16 v5_16 v4_16 v3_16 n_16 = some (r, n') → ∀ (H : Heap) (locs : List Loc) (ls : Array Slot), va_P E.1 vwCl (wX3 E a n_16) H → va_D A (wX3 E a n_16) → va_S A s.heap H locs → lv_has ls 7 [(5, .int v5_16), (4, .int v4_16), (3, .int v3_16), (0, .ref ((a 8) 0)), (1, .int p1), (2, .int p2)] → W p l e (rmk 6 129) s m [.ref ((a 8) 0), .int p1, .int p2].toArray below meth c H locs 0 0 (MQ below (Qct E A (wX3 E a n') (some (.int r))) [.ref ((a 8) 0), .int p1, .int p2].toArray s 0 0 A) (F0 m 44 ls []) := by
        intro k_16
        induction k_16 with
        | zero =>
          intro v5_16 v4_16 v3_16 n_16 hf
          rw [lp_X3_place_44] at hf
          cases hf
        | succ k_16 ih_16 =>
          intro v5_16 v4_16 v3_16 n_16 hf H locs ls hP hD hS hl
          rw [lp_X3_place_44] at hf
          refine lv_iload hx hb dX3_place_44 (lv_at hl 0 rfl) ?_
          refine lv_aload_n hx hb dX3_place_46 rfl (lv_at hl 3 rfl) ?_
          refine va_get (D := E.1) (ci := 3) (v := .ref ((a 0) 0)) (C := RX3) (T := TX3) (N := 7) hx hb hts inX3 hown hE.2.1 hP 0 rfl rfl 0 (by decide) (hE.w tw_119) (fun _ h9 => h9) rfl dX3_place_47 ?_
          refine va_getN (D := E.1) (ci := 0) (v := .int (g0_people (g3_house n_16))) (C := RX0) (T := TX0) (N := 10) hx hb hts inX0 hown hE.2.1 hP 9 rfl rfl 2 (by decide) (hE.w tw_31) (fun _ h9 => h9) rfl dX3_place_50 ?_
          refine lv_icmp_ge (tgt := 108) hx hb dX3_place_53 (by decide) (fun c17 => ?_) (fun c17 => ?_)
          · have hf := ip c17 hf
            refine lv_iload hx hb dX3_place_108 (lv_at hl 1 rfl) ?_
            refine lv_if_ge (tgt := 122) hx hb dX3_place_110 (by decide) (fun c18 => ?_) (fun c18 => ?_)
            · have hf := ip c18 hf
              refine lv_iload hx hb dX3_place_122 (lv_at hl 1 rfl) ?_
              obtain ⟨rfl, rfl⟩ := so2 hf
              exact rt_i hx hb hr hlocks hP hD hS dX3_place_124
            · have hf := im c18 hf
              refine lv_aload_n hx hb dX3_place_113 rfl (lv_at hl 3 rfl) ?_
              refine lv_ldc (v := (-1000000004 : Int32)) hx hb hown (hE.w tw_328) dX3_place_114 ?_
              obtain ⟨r20, n21, hc19, hf⟩ := bd2_some hf
              refine cV (X := List.take 0 (wX3 E a n_16)) (Y := List.drop 37 (wX3 E a n_16)) (w := (wX3 E a n_16)) (w' := (wX3 E a n21)) (q0 := 0) lk_X3_49 hx hb hml hown hE hA (c_X3_finding l E a n_16 (-1000000004 : Int32) r20 n21 hc19) rfl rfl hP hD hS rfl rfl ⟨rfl, rfl, Nat.le_of_ble_eq_true rfl, Nat.le_of_ble_eq_true rfl⟩ hl.1 (As := [.int (-1000000004 : Int32)]) (rest := []) rfl rfl (Nat.le_of_ble_eq_true rfl) ⟨Nat.zero_le _, Nat.zero_le _⟩ dX3_place_116 (fun H locs hP hD hS => ?_)
              refine W.eq (g2 := F0 m 119 ls [.int r20]) rfl ?_
              refine lv_goto (tgt := 124) hx hb dX3_place_119 (by decide) ?_
              obtain ⟨rfl, rfl⟩ := so2 hf
              exact rt_i hx hb hr hlocks hP hD hS dX3_place_124
          · have hf := im c17 hf
            refine lv_iload hx hb dX3_place_56 (lv_at hl 0 rfl) ?_
            refine lv_iload_n hx hb dX3_place_58 rfl (lv_at hl 4 rfl) ?_
            obtain ⟨x23, x24, n25, hq27, hf⟩ := bd3_some hf
            have J26 : ∀ (H : Heap) (locs : List Loc) (ls : Array Slot), va_P E.1 vwCl (wX3 E a n25) H → va_D A (wX3 E a n25) → va_S A s.heap H locs → lv_has ls 7 [(5, .int v5_16), (4, .int x23), (3, .int x24), (0, .ref ((a 8) 0)), (1, .int p1), (2, .int p2)] → W p l e (rmk 6 129) s m [.ref ((a 8) 0), .int p1, .int p2].toArray below meth c H locs 0 0 (MQ below (Qct E A (wX3 E a n') (some (.int r))) [.ref ((a 8) 0), .int p1, .int p2].toArray s 0 0 A) (F0 m 102 ls []) := by
              intro H locs ls hP hD hS hl
              refine lv_iinc (v := (v5_16 + (1 : Int32))) (lv' := [(5, .int (v5_16 + (1 : Int32))), (4, .int x23), (3, .int x24), (0, .ref ((a 8) 0)), (1, .int p1), (2, .int p2)]) hx hb dX3_place_102 hl (k := 0) rfl rfl (by decide) rfl (fun ls hl => ?_)
              refine lv_goto (tgt := 44) hx hb dX3_place_105 (by decide) ?_
              exact ih_16 _ _ _ _ hf _ _ _ hP hD hS (lv_sub hl [0, 1, 2, 3, 4, 5] rfl)
            refine lv_icmp_ne (tgt := 65) hx hb dX3_place_59 (by decide) (fun c22 => ?_) (fun c22 => ?_)
            · have hq27 := im c22 hq27
              refine lv_aload_n hx hb dX3_place_65 rfl (lv_at hl 3 rfl) ?_
              obtain ⟨n29, hc28, hq27⟩ := bd1_some hq27
              refine cV (X := List.take 0 (wX3 E a n_16)) (Y := List.drop 37 (wX3 E a n_16)) (w := (wX3 E a n_16)) (w' := (wX3 E a n29)) (q0 := 0) lk_X3_124 hx hb hml hown hE hA (c_X3_startTrial l E a n_16 n29 hc28) rfl rfl hP hD hS rfl rfl ⟨rfl, rfl, Nat.le_of_ble_eq_true rfl, Nat.le_of_ble_eq_true rfl⟩ hl.1 (As := []) (rest := []) rfl rfl (Nat.le_of_ble_eq_true rfl) ⟨Nat.zero_le _, Nat.zero_le _⟩ dX3_place_66 (fun H locs hP hD hS => ?_)
              refine W.eq (g2 := F0 m 69 ls []) rfl ?_
              refine lv_aload_n hx hb dX3_place_69 rfl (lv_at hl 3 rfl) ?_
              refine va_get (D := E.1) (ci := 3) (v := .ref ((a 1) 0)) (C := RX3) (T := TX3) (N := 7) hx hb hts inX3 hown hE.2.1 hP 0 rfl rfl 1 (by decide) (hE.w tw_120) (fun _ h9 => h9) rfl dX3_place_70 ?_
              refine lv_iload_n hx hb dX3_place_73 rfl (lv_at hl 4 rfl) ?_
              refine lv_iload hx hb dX3_place_74 (lv_at hl 0 rfl) ?_
              obtain ⟨h31, hc30, hq27⟩ := bd1_some hq27
              obtain ⟨n_32, en_32, hq27⟩ := jn1_some hq27
              refine cVN (X := List.take 17 (wX3 E a n29)) (Y := List.drop 25 (wX3 E a n29)) (w := (wX3 E a n29)) (w' := (wX3 E a n_32)) (q0 := 0) lk_X3_115 hx hb hml hown hE hA (c_X0_changeSeats l E (a 1) (g3_trial n29) p1 v5_16 h31 hc30) rfl (by rw [en_32]; rfl) hP hD hS rfl rfl ⟨rfl, rfl, Nat.le_of_ble_eq_true rfl, Nat.le_of_ble_eq_true rfl⟩ hl.1 (As := [.int p1, .int v5_16]) (rest := []) rfl rfl (Nat.le_of_ble_eq_true rfl) ⟨Nat.zero_le _, Nat.zero_le _⟩ dX3_place_76 (fun H locs hP hD hS => ?_)
              refine W.eq (g2 := F0 m 79 ls []) rfl ?_
              refine lv_aload_n hx hb dX3_place_79 rfl (lv_at hl 3 rfl) ?_
              refine va_get (D := E.1) (ci := 3) (v := .ref ((a 1) 0)) (C := RX3) (T := TX3) (N := 7) hx hb hts inX3 hown hE.2.1 hP 0 rfl rfl 1 (by decide) (hE.w tw_120) (fun _ h9 => h9) rfl dX3_place_80 ?_
              refine lv_iload_n hx hb dX3_place_83 rfl (lv_at hl 5 rfl) ?_
              obtain ⟨r34, h35, hc33, hq27⟩ := bd2_some hq27
              obtain ⟨n_36, en_36, hq27⟩ := jn1_some hq27
              refine cVN (X := List.take 17 (wX3 E a n_32)) (Y := List.drop 25 (wX3 E a n_32)) (w := (wX3 E a n_32)) (w' := (wX3 E a n_36)) (q0 := 0) lk_X3_127 hx hb hml hown hE hA (c_X0_allNotesOn l E (a 1) (g3_trial n_32) p2 r34 h35 hc33) rfl (by rw [en_36]; rfl) hP hD hS rfl rfl ⟨rfl, rfl, Nat.le_of_ble_eq_true rfl, Nat.le_of_ble_eq_true rfl⟩ hl.1 (As := [.int p2]) (rest := []) rfl rfl (Nat.le_of_ble_eq_true rfl) ⟨Nat.zero_le _, Nat.zero_le _⟩ dX3_place_84 (fun H locs hP hD hS => ?_)
              refine W.eq (g2 := F0 m 87 ls [.int r34]) rfl ?_
              refine lv_istore (lv' := [(6, .int r34), (5, .int v5_16), (4, .int v4_16), (3, .int v3_16), (0, .ref ((a 8) 0)), (1, .int p1), (2, .int p2)]) hx hb dX3_place_87 hl (by decide) rfl (fun ls hl => ?_)
              refine lv_iload hx hb dX3_place_89 (lv_at hl 0 rfl) ?_
              refine lv_iload_n hx hb dX3_place_91 rfl (lv_at hl 3 rfl) ?_
              refine lv_icmp_le (tgt := 102) hx hb dX3_place_92 (by decide) (fun c37 => ?_) (fun c37 => ?_)
              · have hq27 := ip c37 hq27
                obtain ⟨rfl, rfl, rfl⟩ := so3 hq27
                exact J26 _ _ _ hP hD hS (lv_sub hl [1, 2, 3, 4, 5, 6] rfl)
              · have hq27 := im c37 hq27
                refine lv_iload hx hb dX3_place_95 (lv_at hl 0 rfl) ?_
                refine lv_istore_n (lv' := [(3, .int r34), (6, .int r34), (5, .int v5_16), (4, .int v4_16), (0, .ref ((a 8) 0)), (1, .int p1), (2, .int p2)]) hx hb dX3_place_97 rfl hl (by decide) rfl (fun ls hl => ?_)
                refine lv_iload hx hb dX3_place_98 (lv_at hl 2 rfl) ?_
                refine lv_istore (lv' := [(4, .int v5_16), (3, .int r34), (6, .int r34), (5, .int v5_16), (0, .ref ((a 8) 0)), (1, .int p1), (2, .int p2)]) hx hb dX3_place_100 hl (by decide) rfl (fun ls hl => ?_)
                obtain ⟨rfl, rfl, rfl⟩ := so3 hq27
                exact J26 _ _ _ hP hD hS (lv_sub hl [3, 0, 1, 4, 5, 6] rfl)
            · have hq27 := ip c22 hq27
              refine lv_goto (tgt := 102) hx hb dX3_place_62 (by decide) ?_
              obtain ⟨rfl, rfl, rfl⟩ := so3 hq27
              exact J26 _ _ _ hP hD hS (lv_sub hl [0, 1, 2, 3, 4, 5] rfl)
      exact L_16 _ _ _ _ _ hf _ _ _ hP hD hS (lv_sub hl [0, 1, 2, 3, 4, 5] rfl)
    · have hf := ip c9 hf
      refine lv_aload_n hx hb dX3_place_18 rfl (lv_at hl 0 rfl) ?_
      refine lv_ldc (v := (-1000000001 : Int32)) hx hb hown (hE.w tw_148) dX3_place_19 ?_
      obtain ⟨r39, n40, hc38, hf⟩ := bd2_some hf
      refine cV (X := List.take 0 (wX3 E a n)) (Y := List.drop 37 (wX3 E a n)) (w := (wX3 E a n)) (w' := (wX3 E a n40)) (q0 := 0) lk_X3_49 hx hb hml hown hE hA (c_X3_finding l E a n (-1000000001 : Int32) r39 n40 hc38) rfl rfl hP hD hS rfl rfl ⟨rfl, rfl, Nat.le_of_ble_eq_true rfl, Nat.le_of_ble_eq_true rfl⟩ hl.1 (As := [.int (-1000000001 : Int32)]) (rest := []) rfl rfl (Nat.le_of_ble_eq_true rfl) ⟨Nat.zero_le _, Nat.zero_le _⟩ dX3_place_21 (fun H locs hP hD hS => ?_)
      refine W.eq (g2 := F0 m 24 ls [.int r39]) rfl ?_
      obtain ⟨rfl, rfl⟩ := so2 hf
      exact rt_i hx hb hr hlocks hP hD hS dX3_place_24
def lp_X3_kind_35 (p1 : Int32) (p2 : Int32) : Nat → (Int32) → (Int32) → (Int32) → (NS) → Option (Int32 × NS)
  | 0, _, _, _, _ => none
  | k_10 + 1, v5_10, v4_10, v3_10, n_10 => if (6 : Int32) ≤ v5_10 then some (v4_10, n_10) else bd1 (f_X3_startTrial n_10) (fun n13 => gd p1 8 (jn1 (s3_trial n13 (s0_kinds (g3_trial n13) (upd (g0_kinds (g3_trial n13)) p1.toNatClampNeg v5_10))) (fun n_15 => bd1 (f_X0_goOn (g3_trial n_15) p2) (fun h17 => jn1 (s3_trial n_15 h17) (fun n_18 => gd p1 8 (bd2 (if ((g0_notes (g3_trial n_18)) p1.toNatClampNeg) ≤ v3_10 then some (v4_10, v3_10) else gd p1 8 (some (v5_10, ((g0_notes (g3_trial n_18)) p1.toNatClampNeg)))) (fun x21 x22 => lp_X3_kind_35 p1 p2 k_10 (v5_10 + (1 : Int32)) x21 x22 n_18)))))))
def f_X3_kind (n : NS) (p1 : Int32) (p2 : Int32) : Option (Int32 × NS) := bd1 (f_X3_isThere n p1) (fun r2 => if (bI r2) = 0 then bd2 (f_X3_finding n (-1000000001 : Int32)) (fun r5 n6 => some (r5, n6)) else bd1 (f_X3_isIn p2 (1 : Int32) (100 : Int32)) (fun r8 => if (bI r8) = 0 then bd2 (f_X3_finding n (-1000000001 : Int32)) (fun r27 n28 => some (r27, n28)) else lp_X3_kind_35 p1 p2 FU (0 : Int32) (0 : Int32) (-10000 : Int32) n))
set_option maxHeartbeats 4000000 in
set_option maxRecDepth 100000 in
theorem c_X3_kind (l : Launch) (E : EV) (a : Nat → Nat → Nat) (n : NS) (p1 : Int32) (p2 : Int32)  (r : Int32) (n' : NS) (hf : f_X3_kind n p1 p2 = some (r, n')) : Ct l E yX3_kind cX3_kind 6 ((Option.some FieldType.int)) (rmk 5 108) [.ref ((a 8) 0), .int p1, .int p2] (wX3 E a n) (wX3 E a n') (some (.int r)) := by
  refine Ct.of (by decide) (Nat.le_of_ble_eq_true rfl) ?_
  intro p e s m below meth c A ls hC hP hD hl
  obtain ⟨hx, hb, hr, hml, hown, hlocks, hE, hA⟩ := hC
  have hts : ∀ w ∈ tbl, w.before [.ref ((a 8) 0), .int p1, .int p2].toArray s = true := fun w hw => hE.w hw
  have hS : va_S A s.heap s.heap [] := va_S.rf
  have hl : lv_has ls 6 [(0, .ref ((a 8) 0)), (1, .int p1), (2, .int p2)] := hl
  unfold f_X3_kind at hf
  refine lv_aload_n hx hb dX3_kind_0 rfl (lv_at hl 0 rfl) ?_
  refine lv_iload_n hx hb dX3_kind_1 rfl (lv_at hl 1 rfl) ?_
  obtain ⟨r2, hc1, hf⟩ := bd1_some hf
  refine cV (X := List.take 0 (wX3 E a n)) (Y := List.drop 37 (wX3 E a n)) (w := (wX3 E a n)) (w' := (wX3 E a n)) (q0 := 0) lk_X3_84 hx hb hml hown hE hA (c_X3_isThere l E a n p1 r2 hc1) rfl rfl hP hD hS rfl rfl ⟨rfl, rfl, Nat.le_of_ble_eq_true rfl, Nat.le_of_ble_eq_true rfl⟩ hl.1 (As := [.int p1]) (rest := []) rfl rfl (Nat.le_of_ble_eq_true rfl) ⟨Nat.zero_le _, Nat.zero_le _⟩ dX3_kind_2 (fun H locs hP hD hS => ?_)
  refine W.eq (g2 := F0 m 5 ls [.int (bI r2)]) rfl ?_
  refine lv_if_eq (tgt := 18) hx hb dX3_kind_5 (by decide) (fun c3 => ?_) (fun c3 => ?_)
  · have hf := ip c3 hf
    refine lv_aload_n hx hb dX3_kind_18 rfl (lv_at hl 0 rfl) ?_
    refine lv_ldc (v := (-1000000001 : Int32)) hx hb hown (hE.w tw_148) dX3_kind_19 ?_
    obtain ⟨r5, n6, hc4, hf⟩ := bd2_some hf
    refine cV (X := List.take 0 (wX3 E a n)) (Y := List.drop 37 (wX3 E a n)) (w := (wX3 E a n)) (w' := (wX3 E a n6)) (q0 := 0) lk_X3_49 hx hb hml hown hE hA (c_X3_finding l E a n (-1000000001 : Int32) r5 n6 hc4) rfl rfl hP hD hS rfl rfl ⟨rfl, rfl, Nat.le_of_ble_eq_true rfl, Nat.le_of_ble_eq_true rfl⟩ hl.1 (As := [.int (-1000000001 : Int32)]) (rest := []) rfl rfl (Nat.le_of_ble_eq_true rfl) ⟨Nat.zero_le _, Nat.zero_le _⟩ dX3_kind_21 (fun H locs hP hD hS => ?_)
    refine W.eq (g2 := F0 m 24 ls [.int r5]) rfl ?_
    obtain ⟨rfl, rfl⟩ := so2 hf
    exact rt_i hx hb hr hlocks hP hD hS dX3_kind_24
  · have hf := im c3 hf
    refine lv_iload_n hx hb dX3_kind_8 rfl (lv_at hl 2 rfl) ?_
    refine lv_iconst (v := (1 : Int32)) hx hb dX3_kind_9 (by decide) ?_
    refine lv_bipush (v := (100 : Int32)) hx hb dX3_kind_10 (by decide) ?_
    obtain ⟨r8, hc7, hf⟩ := bd1_some hf
    refine cS (X := List.take 0 (wX3 E a n)) (Y := List.drop 0 (wX3 E a n)) (w := (wX3 E a n)) (w' := (wX3 E a n)) lk_X3_44 hx hb hml hown hE hA (c_X3_isIn l E p2 (1 : Int32) (100 : Int32) r8 hc7) rfl rfl hP hD hS ⟨rfl, rfl, Nat.le_of_ble_eq_true rfl, Nat.le_of_ble_eq_true rfl⟩ hl.1 (As := [.int p2, .int (1 : Int32), .int (100 : Int32)]) (rest := []) rfl rfl (Nat.le_of_ble_eq_true rfl) ⟨Nat.zero_le _, Nat.zero_le _⟩ dX3_kind_12 (fun H locs hP hD hS => ?_)
    refine W.eq (g2 := F0 m 15 ls [.int (bI r8)]) rfl ?_
    refine lv_if_ne (tgt := 25) hx hb dX3_kind_15 (by decide) (fun c9 => ?_) (fun c9 => ?_)
    · have hf := im c9 hf
      refine lv_sipush (v := (-10000 : Int32)) hx hb dX3_kind_25 (by decide) ?_
      refine lv_istore_n (lv' := [(3, .int (-10000 : Int32)), (0, .ref ((a 8) 0)), (1, .int p1), (2, .int p2)]) hx hb dX3_kind_28 rfl hl (by decide) rfl (fun ls hl => ?_)
      refine lv_iconst (v := (0 : Int32)) hx hb dX3_kind_29 (by decide) ?_
      refine lv_istore (lv' := [(4, .int (0 : Int32)), (3, .int (-10000 : Int32)), (0, .ref ((a 8) 0)), (1, .int p1), (2, .int p2)]) hx hb dX3_kind_30 hl (by decide) rfl (fun ls hl => ?_)
      refine lv_iconst (v := (0 : Int32)) hx hb dX3_kind_32 (by decide) ?_
      refine lv_istore (lv' := [(5, .int (0 : Int32)), (4, .int (0 : Int32)), (3, .int (-10000 : Int32)), (0, .ref ((a 8) 0)), (1, .int p1), (2, .int p2)]) hx hb dX3_kind_33 hl (by decide) rfl (fun ls hl => ?_)
      have L_10 : ∀ (k_10 : Nat) (v5_10 : Int32) (v4_10 : Int32) (v3_10 : Int32) (n_10 : NS), lp_X3_kind_35 p1 p2 k_10 v5_10 v4_10 v3_10 n_10 = some (r, n') → ∀ (H : Heap) (locs : List Loc) (ls : Array Slot), va_P E.1 vwCl (wX3 E a n_10) H → va_D A (wX3 E a n_10) → va_S A s.heap H locs → lv_has ls 6 [(5, .int v5_10), (4, .int v4_10), (3, .int v3_10), (0, .ref ((a 8) 0)), (1, .int p1), (2, .int p2)] → W p l e (rmk 5 108) s m [.ref ((a 8) 0), .int p1, .int p2].toArray below meth c H locs 0 0 (MQ below (Qct E A (wX3 E a n') (some (.int r))) [.ref ((a 8) 0), .int p1, .int p2].toArray s 0 0 A) (F0 m 35 ls []) := by
        intro k_10
        induction k_10 with
        | zero =>
          intro v5_10 v4_10 v3_10 n_10 hf
          rw [lp_X3_kind_35] at hf
          cases hf
        | succ k_10 ih_10 =>
          intro v5_10 v4_10 v3_10 n_10 hf H locs ls hP hD hS hl
          rw [lp_X3_kind_35] at hf
          refine lv_iload hx hb dX3_kind_35 (lv_at hl 0 rfl) ?_
          refine lv_bipush (v := (6 : Int32)) hx hb dX3_kind_37 (by decide) ?_
          refine lv_icmp_ge (tgt := 98) hx hb dX3_kind_39 (by decide) (fun c11 => ?_) (fun c11 => ?_)
          · have hf := ip c11 hf
            refine lv_iload hx hb dX3_kind_98 (lv_at hl 1 rfl) ?_
            obtain ⟨rfl, rfl⟩ := so2 hf
            exact rt_i hx hb hr hlocks hP hD hS dX3_kind_100
          · have hf := im c11 hf
            refine lv_aload_n hx hb dX3_kind_42 rfl (lv_at hl 3 rfl) ?_
            obtain ⟨n13, hc12, hf⟩ := bd1_some hf
            refine cV (X := List.take 0 (wX3 E a n_10)) (Y := List.drop 37 (wX3 E a n_10)) (w := (wX3 E a n_10)) (w' := (wX3 E a n13)) (q0 := 0) lk_X3_124 hx hb hml hown hE hA (c_X3_startTrial l E a n_10 n13 hc12) rfl rfl hP hD hS rfl rfl ⟨rfl, rfl, Nat.le_of_ble_eq_true rfl, Nat.le_of_ble_eq_true rfl⟩ hl.1 (As := []) (rest := []) rfl rfl (Nat.le_of_ble_eq_true rfl) ⟨Nat.zero_le _, Nat.zero_le _⟩ dX3_kind_43 (fun H locs hP hD hS => ?_)
            refine W.eq (g2 := F0 m 46 ls []) rfl ?_
            refine lv_aload_n hx hb dX3_kind_46 rfl (lv_at hl 3 rfl) ?_
            refine va_get (D := E.1) (ci := 3) (v := .ref ((a 1) 0)) (C := RX3) (T := TX3) (N := 7) hx hb hts inX3 hown hE.2.1 hP 0 rfl rfl 1 (by decide) (hE.w tw_120) (fun _ h9 => h9) rfl dX3_kind_47 ?_
            refine va_getN (D := E.1) (ci := 0) (v := .ref ((a 1) 6)) (C := RX0) (T := TX0) (N := 10) hx hb hts inX0 hown hE.2.1 hP 17 rfl rfl 5 (by decide) (hE.w tw_40) (fun _ h9 => h9) rfl dX3_kind_50 ?_
            refine lv_iload_n hx hb dX3_kind_53 rfl (lv_at hl 4 rfl) ?_
            refine lv_iload hx hb dX3_kind_54 (lv_at hl 0 rfl) ?_
            obtain ⟨hg14, hf⟩ := gd_some hf
            obtain ⟨n_15, en_15, hf⟩ := jn1_some hf
            refine va_iast hx hb hE.2.1 hP hD hS 20 0 rfl rfl hg14 dX3_kind_56 (fun H locs hP hD hS => ?_)
            have hP : va_P E.1 vwCl (wX3 E a n_15) H := wst (by rw [en_15]; exact rfl) hP
            have hD : va_D A (wX3 E a n_15) := wsd (by rw [en_15]; exact rfl) hD
            refine lv_aload_n hx hb dX3_kind_57 rfl (lv_at hl 3 rfl) ?_
            refine va_get (D := E.1) (ci := 3) (v := .ref ((a 1) 0)) (C := RX3) (T := TX3) (N := 7) hx hb hts inX3 hown hE.2.1 hP 0 rfl rfl 1 (by decide) (hE.w tw_120) (fun _ h9 => h9) rfl dX3_kind_58 ?_
            refine lv_iload_n hx hb dX3_kind_61 rfl (lv_at hl 5 rfl) ?_
            obtain ⟨h17, hc16, hf⟩ := bd1_some hf
            obtain ⟨n_18, en_18, hf⟩ := jn1_some hf
            refine cVN (X := List.take 17 (wX3 E a n_15)) (Y := List.drop 25 (wX3 E a n_15)) (w := (wX3 E a n_15)) (w' := (wX3 E a n_18)) (q0 := 0) lk_X3_120 hx hb hml hown hE hA (c_X0_goOn l E (a 1) (g3_trial n_15) p2 h17 hc16) rfl (by rw [en_18]; rfl) hP hD hS rfl rfl ⟨rfl, rfl, Nat.le_of_ble_eq_true rfl, Nat.le_of_ble_eq_true rfl⟩ hl.1 (As := [.int p2]) (rest := []) rfl rfl (Nat.le_of_ble_eq_true rfl) ⟨Nat.zero_le _, Nat.zero_le _⟩ dX3_kind_62 (fun H locs hP hD hS => ?_)
            refine W.eq (g2 := F0 m 65 ls []) rfl ?_
            refine lv_aload_n hx hb dX3_kind_65 rfl (lv_at hl 3 rfl) ?_
            refine va_get (D := E.1) (ci := 3) (v := .ref ((a 1) 0)) (C := RX3) (T := TX3) (N := 7) hx hb hts inX3 hown hE.2.1 hP 0 rfl rfl 1 (by decide) (hE.w tw_120) (fun _ h9 => h9) rfl dX3_kind_66 ?_
            refine va_getN (D := E.1) (ci := 0) (v := .ref ((a 1) 8)) (C := RX0) (T := TX0) (N := 10) hx hb hts inX0 hown hE.2.1 hP 17 rfl rfl 7 (by decide) (hE.w tw_45) (fun _ h9 => h9) rfl dX3_kind_69 ?_
            refine lv_iload_n hx hb dX3_kind_72 rfl (lv_at hl 4 rfl) ?_
            obtain ⟨hg19, hf⟩ := gd_some hf
            refine va_iald hx hb hE.2.1 hP 22 0 rfl rfl hg19 dX3_kind_73 ?_
            refine lv_iload_n hx hb dX3_kind_74 rfl (lv_at hl 2 rfl) ?_
            obtain ⟨x21, x22, hq24, hf⟩ := bd2_some hf
            have J23 : ∀ (H : Heap) (locs : List Loc) (ls : Array Slot), va_P E.1 vwCl (wX3 E a n_18) H → va_D A (wX3 E a n_18) → va_S A s.heap H locs → lv_has ls 6 [(5, .int v5_10), (4, .int x21), (3, .int x22), (0, .ref ((a 8) 0)), (1, .int p1), (2, .int p2)] → W p l e (rmk 5 108) s m [.ref ((a 8) 0), .int p1, .int p2].toArray below meth c H locs 0 0 (MQ below (Qct E A (wX3 E a n') (some (.int r))) [.ref ((a 8) 0), .int p1, .int p2].toArray s 0 0 A) (F0 m 92 ls []) := by
              intro H locs ls hP hD hS hl
              refine lv_iinc (v := (v5_10 + (1 : Int32))) (lv' := [(5, .int (v5_10 + (1 : Int32))), (4, .int x21), (3, .int x22), (0, .ref ((a 8) 0)), (1, .int p1), (2, .int p2)]) hx hb dX3_kind_92 hl (k := 0) rfl rfl (by decide) rfl (fun ls hl => ?_)
              refine lv_goto (tgt := 35) hx hb dX3_kind_95 (by decide) ?_
              exact ih_10 _ _ _ _ hf _ _ _ hP hD hS (lv_sub hl [0, 1, 2, 3, 4, 5] rfl)
            refine lv_icmp_le (tgt := 92) hx hb dX3_kind_75 (by decide) (fun c20 => ?_) (fun c20 => ?_)
            · have hq24 := ip c20 hq24
              obtain ⟨rfl, rfl⟩ := so2 hq24
              exact J23 _ _ _ hP hD hS (lv_sub hl [0, 1, 2, 3, 4, 5] rfl)
            · have hq24 := im c20 hq24
              refine lv_aload_n hx hb dX3_kind_78 rfl (lv_at hl 3 rfl) ?_
              refine va_get (D := E.1) (ci := 3) (v := .ref ((a 1) 0)) (C := RX3) (T := TX3) (N := 7) hx hb hts inX3 hown hE.2.1 hP 0 rfl rfl 1 (by decide) (hE.w tw_120) (fun _ h9 => h9) rfl dX3_kind_79 ?_
              refine va_getN (D := E.1) (ci := 0) (v := .ref ((a 1) 8)) (C := RX0) (T := TX0) (N := 10) hx hb hts inX0 hown hE.2.1 hP 17 rfl rfl 7 (by decide) (hE.w tw_45) (fun _ h9 => h9) rfl dX3_kind_82 ?_
              refine lv_iload_n hx hb dX3_kind_85 rfl (lv_at hl 4 rfl) ?_
              obtain ⟨hg25, hq24⟩ := gd_some hq24
              refine va_iald hx hb hE.2.1 hP 22 0 rfl rfl hg25 dX3_kind_86 ?_
              refine lv_istore_n (lv' := [(3, .int ((g0_notes (g3_trial n_18)) p1.toNatClampNeg)), (5, .int v5_10), (4, .int v4_10), (0, .ref ((a 8) 0)), (1, .int p1), (2, .int p2)]) hx hb dX3_kind_87 rfl hl (by decide) rfl (fun ls hl => ?_)
              refine lv_iload hx hb dX3_kind_88 (lv_at hl 1 rfl) ?_
              refine lv_istore (lv' := [(4, .int v5_10), (3, .int ((g0_notes (g3_trial n_18)) p1.toNatClampNeg)), (5, .int v5_10), (0, .ref ((a 8) 0)), (1, .int p1), (2, .int p2)]) hx hb dX3_kind_90 hl (by decide) rfl (fun ls hl => ?_)
              obtain ⟨rfl, rfl⟩ := so2 hq24
              exact J23 _ _ _ hP hD hS (lv_sub hl [2, 0, 1, 3, 4, 5] rfl)
      exact L_10 _ _ _ _ _ hf _ _ _ hP hD hS (lv_sub hl [0, 1, 2, 3, 4, 5] rfl)
    · have hf := ip c9 hf
      refine lv_aload_n hx hb dX3_kind_18 rfl (lv_at hl 0 rfl) ?_
      refine lv_ldc (v := (-1000000001 : Int32)) hx hb hown (hE.w tw_148) dX3_kind_19 ?_
      obtain ⟨r27, n28, hc26, hf⟩ := bd2_some hf
      refine cV (X := List.take 0 (wX3 E a n)) (Y := List.drop 37 (wX3 E a n)) (w := (wX3 E a n)) (w' := (wX3 E a n28)) (q0 := 0) lk_X3_49 hx hb hml hown hE hA (c_X3_finding l E a n (-1000000001 : Int32) r27 n28 hc26) rfl rfl hP hD hS rfl rfl ⟨rfl, rfl, Nat.le_of_ble_eq_true rfl, Nat.le_of_ble_eq_true rfl⟩ hl.1 (As := [.int (-1000000001 : Int32)]) (rest := []) rfl rfl (Nat.le_of_ble_eq_true rfl) ⟨Nat.zero_le _, Nat.zero_le _⟩ dX3_kind_21 (fun H locs hP hD hS => ?_)
      refine W.eq (g2 := F0 m 24 ls [.int r27]) rfl ?_
      obtain ⟨rfl, rfl⟩ := so2 hf
      exact rt_i hx hb hr hlocks hP hD hS dX3_kind_24
def lp_X3_fresh_41 (p1 : Int32) (p2 : Int32) (p3 : Int32) : Nat → (Int32) → (NS) → Option (Int32 × NS)
  | 0, _, _ => none
  | k_16 + 1, v4_16, n_16 => if (99 : Int32) < v4_16 then bd2 (f_X3_finding n_16 (-1000000004 : Int32)) (fun r19 n20 => some (r19, n20)) else bd1 (f_X3_startTrial n_16) (fun n22 => gd p1 8 (jn1 (s3_trial n22 (s0_freshes (g3_trial n22) (upd (g0_freshes (g3_trial n22)) p1.toNatClampNeg v4_16))) (fun n_24 => bd1 (f_X0_goOn (g3_trial n_24) p2) (fun h26 => jn1 (s3_trial n_24 h26) (fun n_27 => gd p1 8 (if ((g0_notes (g3_trial n_27)) p1.toNatClampNeg) < p3 then lp_X3_fresh_41 p1 p2 p3 k_16 (v4_16 + (1 : Int32)) n_27 else some (v4_16, n_27)))))))
def f_X3_fresh (n : NS) (p1 : Int32) (p2 : Int32) (p3 : Int32) : Option (Int32 × NS) := bd1 (f_X3_isThere n p1) (fun r2 => if (bI r2) = 0 then bd2 (f_X3_finding n (-1000000001 : Int32)) (fun r5 n6 => some (r5, n6)) else bd1 (f_X3_isIn p2 (1 : Int32) (100 : Int32)) (fun r8 => if (bI r8) = 0 then bd2 (f_X3_finding n (-1000000001 : Int32)) (fun r11 n12 => some (r11, n12)) else bd1 (f_X3_isIn p3 (-9999 : Int32) (9999 : Int32)) (fun r14 => if (bI r14) = 0 then bd2 (f_X3_finding n (-1000000001 : Int32)) (fun r31 n32 => some (r31, n32)) else lp_X3_fresh_41 p1 p2 p3 FU (0 : Int32) n)))
set_option maxHeartbeats 4000000 in
set_option maxRecDepth 100000 in
theorem c_X3_fresh (l : Launch) (E : EV) (a : Nat → Nat → Nat) (n : NS) (p1 : Int32) (p2 : Int32) (p3 : Int32)  (r : Int32) (n' : NS) (hf : f_X3_fresh n p1 p2 p3 = some (r, n')) : Ct l E yX3_fresh cX3_fresh 5 ((Option.some FieldType.int)) (rmk 5 108) [.ref ((a 8) 0), .int p1, .int p2, .int p3] (wX3 E a n) (wX3 E a n') (some (.int r)) := by
  refine Ct.of (by decide) (Nat.le_of_ble_eq_true rfl) ?_
  intro p e s m below meth c A ls hC hP hD hl
  obtain ⟨hx, hb, hr, hml, hown, hlocks, hE, hA⟩ := hC
  have hts : ∀ w ∈ tbl, w.before [.ref ((a 8) 0), .int p1, .int p2, .int p3].toArray s = true := fun w hw => hE.w hw
  have hS : va_S A s.heap s.heap [] := va_S.rf
  have hl : lv_has ls 5 [(0, .ref ((a 8) 0)), (1, .int p1), (2, .int p2), (3, .int p3)] := hl
  unfold f_X3_fresh at hf
  refine lv_aload_n hx hb dX3_fresh_0 rfl (lv_at hl 0 rfl) ?_
  refine lv_iload_n hx hb dX3_fresh_1 rfl (lv_at hl 1 rfl) ?_
  obtain ⟨r2, hc1, hf⟩ := bd1_some hf
  refine cV (X := List.take 0 (wX3 E a n)) (Y := List.drop 37 (wX3 E a n)) (w := (wX3 E a n)) (w' := (wX3 E a n)) (q0 := 0) lk_X3_84 hx hb hml hown hE hA (c_X3_isThere l E a n p1 r2 hc1) rfl rfl hP hD hS rfl rfl ⟨rfl, rfl, Nat.le_of_ble_eq_true rfl, Nat.le_of_ble_eq_true rfl⟩ hl.1 (As := [.int p1]) (rest := []) rfl rfl (Nat.le_of_ble_eq_true rfl) ⟨Nat.zero_le _, Nat.zero_le _⟩ dX3_fresh_2 (fun H locs hP hD hS => ?_)
  refine W.eq (g2 := F0 m 5 ls [.int (bI r2)]) rfl ?_
  refine lv_if_eq (tgt := 31) hx hb dX3_fresh_5 (by decide) (fun c3 => ?_) (fun c3 => ?_)
  · have hf := ip c3 hf
    refine lv_aload_n hx hb dX3_fresh_31 rfl (lv_at hl 0 rfl) ?_
    refine lv_ldc (v := (-1000000001 : Int32)) hx hb hown (hE.w tw_148) dX3_fresh_32 ?_
    obtain ⟨r5, n6, hc4, hf⟩ := bd2_some hf
    refine cV (X := List.take 0 (wX3 E a n)) (Y := List.drop 37 (wX3 E a n)) (w := (wX3 E a n)) (w' := (wX3 E a n6)) (q0 := 0) lk_X3_49 hx hb hml hown hE hA (c_X3_finding l E a n (-1000000001 : Int32) r5 n6 hc4) rfl rfl hP hD hS rfl rfl ⟨rfl, rfl, Nat.le_of_ble_eq_true rfl, Nat.le_of_ble_eq_true rfl⟩ hl.1 (As := [.int (-1000000001 : Int32)]) (rest := []) rfl rfl (Nat.le_of_ble_eq_true rfl) ⟨Nat.zero_le _, Nat.zero_le _⟩ dX3_fresh_34 (fun H locs hP hD hS => ?_)
    refine W.eq (g2 := F0 m 37 ls [.int r5]) rfl ?_
    obtain ⟨rfl, rfl⟩ := so2 hf
    exact rt_i hx hb hr hlocks hP hD hS dX3_fresh_37
  · have hf := im c3 hf
    refine lv_iload_n hx hb dX3_fresh_8 rfl (lv_at hl 2 rfl) ?_
    refine lv_iconst (v := (1 : Int32)) hx hb dX3_fresh_9 (by decide) ?_
    refine lv_bipush (v := (100 : Int32)) hx hb dX3_fresh_10 (by decide) ?_
    obtain ⟨r8, hc7, hf⟩ := bd1_some hf
    refine cS (X := List.take 0 (wX3 E a n)) (Y := List.drop 0 (wX3 E a n)) (w := (wX3 E a n)) (w' := (wX3 E a n)) lk_X3_44 hx hb hml hown hE hA (c_X3_isIn l E p2 (1 : Int32) (100 : Int32) r8 hc7) rfl rfl hP hD hS ⟨rfl, rfl, Nat.le_of_ble_eq_true rfl, Nat.le_of_ble_eq_true rfl⟩ hl.1 (As := [.int p2, .int (1 : Int32), .int (100 : Int32)]) (rest := []) rfl rfl (Nat.le_of_ble_eq_true rfl) ⟨Nat.zero_le _, Nat.zero_le _⟩ dX3_fresh_12 (fun H locs hP hD hS => ?_)
    refine W.eq (g2 := F0 m 15 ls [.int (bI r8)]) rfl ?_
    refine lv_if_eq (tgt := 31) hx hb dX3_fresh_15 (by decide) (fun c9 => ?_) (fun c9 => ?_)
    · have hf := ip c9 hf
      refine lv_aload_n hx hb dX3_fresh_31 rfl (lv_at hl 0 rfl) ?_
      refine lv_ldc (v := (-1000000001 : Int32)) hx hb hown (hE.w tw_148) dX3_fresh_32 ?_
      obtain ⟨r11, n12, hc10, hf⟩ := bd2_some hf
      refine cV (X := List.take 0 (wX3 E a n)) (Y := List.drop 37 (wX3 E a n)) (w := (wX3 E a n)) (w' := (wX3 E a n12)) (q0 := 0) lk_X3_49 hx hb hml hown hE hA (c_X3_finding l E a n (-1000000001 : Int32) r11 n12 hc10) rfl rfl hP hD hS rfl rfl ⟨rfl, rfl, Nat.le_of_ble_eq_true rfl, Nat.le_of_ble_eq_true rfl⟩ hl.1 (As := [.int (-1000000001 : Int32)]) (rest := []) rfl rfl (Nat.le_of_ble_eq_true rfl) ⟨Nat.zero_le _, Nat.zero_le _⟩ dX3_fresh_34 (fun H locs hP hD hS => ?_)
      refine W.eq (g2 := F0 m 37 ls [.int r11]) rfl ?_
      obtain ⟨rfl, rfl⟩ := so2 hf
      exact rt_i hx hb hr hlocks hP hD hS dX3_fresh_37
    · have hf := im c9 hf
      refine lv_iload_n hx hb dX3_fresh_18 rfl (lv_at hl 3 rfl) ?_
      refine lv_sipush (v := (-9999 : Int32)) hx hb dX3_fresh_19 (by decide) ?_
      refine lv_sipush (v := (9999 : Int32)) hx hb dX3_fresh_22 (by decide) ?_
      obtain ⟨r14, hc13, hf⟩ := bd1_some hf
      refine cS (X := List.take 0 (wX3 E a n)) (Y := List.drop 0 (wX3 E a n)) (w := (wX3 E a n)) (w' := (wX3 E a n)) lk_X3_44 hx hb hml hown hE hA (c_X3_isIn l E p3 (-9999 : Int32) (9999 : Int32) r14 hc13) rfl rfl hP hD hS ⟨rfl, rfl, Nat.le_of_ble_eq_true rfl, Nat.le_of_ble_eq_true rfl⟩ hl.1 (As := [.int p3, .int (-9999 : Int32), .int (9999 : Int32)]) (rest := []) rfl rfl (Nat.le_of_ble_eq_true rfl) ⟨Nat.zero_le _, Nat.zero_le _⟩ dX3_fresh_25 (fun H locs hP hD hS => ?_)
      refine W.eq (g2 := F0 m 28 ls [.int (bI r14)]) rfl ?_
      refine lv_if_ne (tgt := 38) hx hb dX3_fresh_28 (by decide) (fun c15 => ?_) (fun c15 => ?_)
      · have hf := im c15 hf
        refine lv_iconst (v := (0 : Int32)) hx hb dX3_fresh_38 (by decide) ?_
        refine lv_istore (lv' := [(4, .int (0 : Int32)), (0, .ref ((a 8) 0)), (1, .int p1), (2, .int p2), (3, .int p3)]) hx hb dX3_fresh_39 hl (by decide) rfl (fun ls hl => ?_)
        have L_16 : ∀ (k_16 : Nat) (v4_16 : Int32) (n_16 : NS), lp_X3_fresh_41 p1 p2 p3 k_16 v4_16 n_16 = some (r, n') → ∀ (H : Heap) (locs : List Loc) (ls : Array Slot), va_P E.1 vwCl (wX3 E a n_16) H → va_D A (wX3 E a n_16) → va_S A s.heap H locs → lv_has ls 5 [(4, .int v4_16), (0, .ref ((a 8) 0)), (1, .int p1), (2, .int p2), (3, .int p3)] → W p l e (rmk 5 108) s m [.ref ((a 8) 0), .int p1, .int p2, .int p3].toArray below meth c H locs 0 0 (MQ below (Qct E A (wX3 E a n') (some (.int r))) [.ref ((a 8) 0), .int p1, .int p2, .int p3].toArray s 0 0 A) (F0 m 41 ls []) := by
          intro k_16
          induction k_16 with
          | zero =>
            intro v4_16 n_16 hf
            rw [lp_X3_fresh_41] at hf
            cases hf
          | succ k_16 ih_16 =>
            intro v4_16 n_16 hf H locs ls hP hD hS hl
            rw [lp_X3_fresh_41] at hf
            refine lv_iload hx hb dX3_fresh_41 (lv_at hl 0 rfl) ?_
            refine lv_bipush (v := (99 : Int32)) hx hb dX3_fresh_43 (by decide) ?_
            refine lv_icmp_gt (tgt := 93) hx hb dX3_fresh_45 (by decide) (fun c17 => ?_) (fun c17 => ?_)
            · have hf := ip c17 hf
              refine lv_aload_n hx hb dX3_fresh_93 rfl (lv_at hl 1 rfl) ?_
              refine lv_ldc (v := (-1000000004 : Int32)) hx hb hown (hE.w tw_328) dX3_fresh_94 ?_
              obtain ⟨r19, n20, hc18, hf⟩ := bd2_some hf
              refine cV (X := List.take 0 (wX3 E a n_16)) (Y := List.drop 37 (wX3 E a n_16)) (w := (wX3 E a n_16)) (w' := (wX3 E a n20)) (q0 := 0) lk_X3_49 hx hb hml hown hE hA (c_X3_finding l E a n_16 (-1000000004 : Int32) r19 n20 hc18) rfl rfl hP hD hS rfl rfl ⟨rfl, rfl, Nat.le_of_ble_eq_true rfl, Nat.le_of_ble_eq_true rfl⟩ hl.1 (As := [.int (-1000000004 : Int32)]) (rest := []) rfl rfl (Nat.le_of_ble_eq_true rfl) ⟨Nat.zero_le _, Nat.zero_le _⟩ dX3_fresh_96 (fun H locs hP hD hS => ?_)
              refine W.eq (g2 := F0 m 99 ls [.int r19]) rfl ?_
              obtain ⟨rfl, rfl⟩ := so2 hf
              exact rt_i hx hb hr hlocks hP hD hS dX3_fresh_99
            · have hf := im c17 hf
              refine lv_aload_n hx hb dX3_fresh_48 rfl (lv_at hl 1 rfl) ?_
              obtain ⟨n22, hc21, hf⟩ := bd1_some hf
              refine cV (X := List.take 0 (wX3 E a n_16)) (Y := List.drop 37 (wX3 E a n_16)) (w := (wX3 E a n_16)) (w' := (wX3 E a n22)) (q0 := 0) lk_X3_124 hx hb hml hown hE hA (c_X3_startTrial l E a n_16 n22 hc21) rfl rfl hP hD hS rfl rfl ⟨rfl, rfl, Nat.le_of_ble_eq_true rfl, Nat.le_of_ble_eq_true rfl⟩ hl.1 (As := []) (rest := []) rfl rfl (Nat.le_of_ble_eq_true rfl) ⟨Nat.zero_le _, Nat.zero_le _⟩ dX3_fresh_49 (fun H locs hP hD hS => ?_)
              refine W.eq (g2 := F0 m 52 ls []) rfl ?_
              refine lv_aload_n hx hb dX3_fresh_52 rfl (lv_at hl 1 rfl) ?_
              refine va_get (D := E.1) (ci := 3) (v := .ref ((a 1) 0)) (C := RX3) (T := TX3) (N := 7) hx hb hts inX3 hown hE.2.1 hP 0 rfl rfl 1 (by decide) (hE.w tw_120) (fun _ h9 => h9) rfl dX3_fresh_53 ?_
              refine va_getN (D := E.1) (ci := 0) (v := .ref ((a 1) 7)) (C := RX0) (T := TX0) (N := 10) hx hb hts inX0 hown hE.2.1 hP 17 rfl rfl 6 (by decide) (hE.w tw_43) (fun _ h9 => h9) rfl dX3_fresh_56 ?_
              refine lv_iload_n hx hb dX3_fresh_59 rfl (lv_at hl 2 rfl) ?_
              refine lv_iload hx hb dX3_fresh_60 (lv_at hl 0 rfl) ?_
              obtain ⟨hg23, hf⟩ := gd_some hf
              obtain ⟨n_24, en_24, hf⟩ := jn1_some hf
              refine va_iast hx hb hE.2.1 hP hD hS 21 0 rfl rfl hg23 dX3_fresh_62 (fun H locs hP hD hS => ?_)
              have hP : va_P E.1 vwCl (wX3 E a n_24) H := wst (by rw [en_24]; exact rfl) hP
              have hD : va_D A (wX3 E a n_24) := wsd (by rw [en_24]; exact rfl) hD
              refine lv_aload_n hx hb dX3_fresh_63 rfl (lv_at hl 1 rfl) ?_
              refine va_get (D := E.1) (ci := 3) (v := .ref ((a 1) 0)) (C := RX3) (T := TX3) (N := 7) hx hb hts inX3 hown hE.2.1 hP 0 rfl rfl 1 (by decide) (hE.w tw_120) (fun _ h9 => h9) rfl dX3_fresh_64 ?_
              refine lv_iload_n hx hb dX3_fresh_67 rfl (lv_at hl 3 rfl) ?_
              obtain ⟨h26, hc25, hf⟩ := bd1_some hf
              obtain ⟨n_27, en_27, hf⟩ := jn1_some hf
              refine cVN (X := List.take 17 (wX3 E a n_24)) (Y := List.drop 25 (wX3 E a n_24)) (w := (wX3 E a n_24)) (w' := (wX3 E a n_27)) (q0 := 0) lk_X3_120 hx hb hml hown hE hA (c_X0_goOn l E (a 1) (g3_trial n_24) p2 h26 hc25) rfl (by rw [en_27]; rfl) hP hD hS rfl rfl ⟨rfl, rfl, Nat.le_of_ble_eq_true rfl, Nat.le_of_ble_eq_true rfl⟩ hl.1 (As := [.int p2]) (rest := []) rfl rfl (Nat.le_of_ble_eq_true rfl) ⟨Nat.zero_le _, Nat.zero_le _⟩ dX3_fresh_68 (fun H locs hP hD hS => ?_)
              refine W.eq (g2 := F0 m 71 ls []) rfl ?_
              refine lv_aload_n hx hb dX3_fresh_71 rfl (lv_at hl 1 rfl) ?_
              refine va_get (D := E.1) (ci := 3) (v := .ref ((a 1) 0)) (C := RX3) (T := TX3) (N := 7) hx hb hts inX3 hown hE.2.1 hP 0 rfl rfl 1 (by decide) (hE.w tw_120) (fun _ h9 => h9) rfl dX3_fresh_72 ?_
              refine va_getN (D := E.1) (ci := 0) (v := .ref ((a 1) 8)) (C := RX0) (T := TX0) (N := 10) hx hb hts inX0 hown hE.2.1 hP 17 rfl rfl 7 (by decide) (hE.w tw_45) (fun _ h9 => h9) rfl dX3_fresh_75 ?_
              refine lv_iload_n hx hb dX3_fresh_78 rfl (lv_at hl 2 rfl) ?_
              obtain ⟨hg28, hf⟩ := gd_some hf
              refine va_iald hx hb hE.2.1 hP 22 0 rfl rfl hg28 dX3_fresh_79 ?_
              refine lv_iload_n hx hb dX3_fresh_80 rfl (lv_at hl 4 rfl) ?_
              refine lv_icmp_lt (tgt := 87) hx hb dX3_fresh_81 (by decide) (fun c29 => ?_) (fun c29 => ?_)
              · have hf := ip c29 hf
                refine lv_iinc (v := (v4_16 + (1 : Int32))) (lv' := [(4, .int (v4_16 + (1 : Int32))), (0, .ref ((a 8) 0)), (1, .int p1), (2, .int p2), (3, .int p3)]) hx hb dX3_fresh_87 hl (k := 0) rfl rfl (by decide) rfl (fun ls hl => ?_)
                refine lv_goto (tgt := 41) hx hb dX3_fresh_90 (by decide) ?_
                exact ih_16 _ _ hf _ _ _ hP hD hS (lv_sub hl [0, 1, 2, 3, 4] rfl)
              · have hf := im c29 hf
                refine lv_iload hx hb dX3_fresh_84 (lv_at hl 0 rfl) ?_
                obtain ⟨rfl, rfl⟩ := so2 hf
                exact rt_i hx hb hr hlocks hP hD hS dX3_fresh_86
        exact L_16 _ _ _ hf _ _ _ hP hD hS (lv_sub hl [0, 1, 2, 3, 4] rfl)
      · have hf := ip c15 hf
        refine lv_aload_n hx hb dX3_fresh_31 rfl (lv_at hl 0 rfl) ?_
        refine lv_ldc (v := (-1000000001 : Int32)) hx hb hown (hE.w tw_148) dX3_fresh_32 ?_
        obtain ⟨r31, n32, hc30, hf⟩ := bd2_some hf
        refine cV (X := List.take 0 (wX3 E a n)) (Y := List.drop 37 (wX3 E a n)) (w := (wX3 E a n)) (w' := (wX3 E a n32)) (q0 := 0) lk_X3_49 hx hb hml hown hE hA (c_X3_finding l E a n (-1000000001 : Int32) r31 n32 hc30) rfl rfl hP hD hS rfl rfl ⟨rfl, rfl, Nat.le_of_ble_eq_true rfl, Nat.le_of_ble_eq_true rfl⟩ hl.1 (As := [.int (-1000000001 : Int32)]) (rest := []) rfl rfl (Nat.le_of_ble_eq_true rfl) ⟨Nat.zero_le _, Nat.zero_le _⟩ dX3_fresh_34 (fun H locs hP hD hS => ?_)
        refine W.eq (g2 := F0 m 37 ls [.int r31]) rfl ?_
        obtain ⟨rfl, rfl⟩ := so2 hf
        exact rt_i hx hb hr hlocks hP hD hS dX3_fresh_37
