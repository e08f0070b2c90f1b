def lp_X4_feed_39 (p1 : Int32) : Nat → (Int32) → (MS) → Option (Int32 × MS)
  | 0, _, _ => none
  | k_5 + 1, v3_5, m0_5 => if v3_5 < 0 then some ((g4_taped m0_5), m0_5) else gd (g4_taped m0_5) 120 (jn1 (s4_tape m0_5 (upd (g4_tape m0_5) (g4_taped m0_5).toNatClampNeg (vp_nar .byte ((p1 >>> (((8 : Int32) * v3_5) &&& 31)).toInt8.toInt32)))) (fun m_8 => jn1 (s4_taped m_8 ((g4_taped m_8) + (1 : Int32))) (fun m_9 => lp_X4_feed_39 p1 k_5 (v3_5 + (-1 : Int32)) m_9)))
def f_X4_feed (m0 : MS) (p1 : Int32) (p2 : Int32) : Option (Int32 × MS) := bd1 (f_X4_in (p2.toInt64) (1 : Int64) (4 : Int64)) (fun r2 => if (bI r2) = 0 then bd2 (f_X4_finds m0 (0 : Int32)) (fun r14 m15 => some (r14, m15)) else if ((g4_taped m0) + p2) ≤ (120 : Int32) then lp_X4_feed_39 p1 FU (p2 - (1 : Int32)) m0 else bd2 (f_X4_finds m0 (1 : Int32)) (fun r11 m12 => some (r11, m12)))
set_option maxHeartbeats 4000000 in
set_option maxRecDepth 100000 in
theorem c_X4_feed (l : Launch) (E : EV) (a : Nat → Nat) (m0 : MS) (p1 : Int32) (p2 : Int32)  (r : Int32) (m0' : MS) (hf : f_X4_feed m0 p1 p2 = some (r, m0')) : Ct l E yX4_feed cX4_feed 4 ((Option.some FieldType.int)) (rmk 1 25) [.ref (a 0), .int p1, .int p2] (wX4 E a m0) (wX4 E a m0') (some (.int r)) := by
  refine Ct.of (by decide) (Nat.le_of_ble_eq_true rfl) ?_
  intro p e s m below meth c A ls hC hP hD hl
  obtain ⟨hx, hb, hr, hml, hown, hlocks, hE, hA⟩ := hC
  have hts : ∀ w ∈ tbl, w.before [.ref (a 0), .int p1, .int p2].toArray s = true := fun w hw => hE.w hw
  have hS : va_S A s.heap s.heap [] := va_S.rf
  have hl : lv_has ls 4 [(0, .ref (a 0)), (1, .int p1), (2, .int p2)] := hl
  unfold f_X4_feed at hf
  refine lv_iload_n hx hb dX4_feed_0 rfl (lv_at hl 2 rfl) ?_
  refine lv_i2l (v := (p2.toInt64)) hx hb dX4_feed_1 rfl ?_
  refine lv_lconst (v := (1 : Int64)) hx hb dX4_feed_2 (by decide) ?_
  refine lv_ldc2 (v := (4 : Int64)) hx hb hown (hE.w tw_664) dX4_feed_3 ?_
  obtain ⟨r2, hc1, hf⟩ := bd1_some hf
  refine cS (X := List.take 0 (wX4 E a m0)) (Y := List.drop 0 (wX4 E a m0)) (w := (wX4 E a m0)) (w' := (wX4 E a m0)) lk_X4_46 hx hb hml hown hE hA (c_X4_in l E (p2.toInt64) (1 : Int64) (4 : Int64) r2 hc1) rfl rfl hP hD hS ⟨rfl, rfl, Nat.le_of_ble_eq_true rfl, Nat.le_of_ble_eq_true rfl⟩ hl.1 (As := [.long (p2.toInt64), .long (1 : Int64), .long (4 : Int64)]) (rest := []) rfl rfl (Nat.le_of_ble_eq_true rfl) ⟨Nat.zero_le _, Nat.zero_le _⟩ dX4_feed_6 (fun H locs hP hD hS => ?_)
  refine W.eq (g2 := F0 m 9 ls [.int (bI r2)]) rfl ?_
  refine lv_if_ne (tgt := 18) hx hb dX4_feed_9 (by decide) (fun c3 => ?_) (fun c3 => ?_)
  · have hf := im c3 hf
    refine lv_aload_n hx hb dX4_feed_18 rfl (lv_at hl 0 rfl) ?_
    refine va_get (D := E.1) (ci := 4) (v := .int (g4_taped m0)) (C := RX4) (T := TX4) (N := 18) hx hb hts inX4 hown hE.2.1 hP 0 rfl rfl 7 (by decide) (hE.w tw_605) (fun _ h9 => h9) rfl dX4_feed_19 ?_
    refine lv_iload_n hx hb dX4_feed_22 rfl (lv_at hl 2 rfl) ?_
    refine lv_iadd hx hb dX4_feed_23 ?_
    refine lv_bipush (v := (120 : Int32)) hx hb dX4_feed_24 (by decide) ?_
    refine lv_icmp_le (tgt := 35) hx hb dX4_feed_26 (by decide) (fun c4 => ?_) (fun c4 => ?_)
    · have hf := ip c4 hf
      refine lv_iload_n hx hb dX4_feed_35 rfl (lv_at hl 2 rfl) ?_
      refine lv_iconst (v := (1 : Int32)) hx hb dX4_feed_36 (by decide) ?_
      refine lv_isub hx hb dX4_feed_37 ?_
      refine lv_istore_n (lv' := [(3, .int (p2 - (1 : Int32))), (0, .ref (a 0)), (1, .int p1), (2, .int p2)]) hx hb dX4_feed_38 rfl hl (by decide) rfl (fun ls hl => ?_)
      have L_5 : ∀ (k_5 : Nat) (v3_5 : Int32) (m0_5 : MS), lp_X4_feed_39 p1 k_5 v3_5 m0_5 = some (r, m0') → ∀ (H : Heap) (locs : List Loc) (ls : Array Slot), va_P E.1 vwCl (wX4 E a m0_5) H → va_D A (wX4 E a m0_5) → va_S A s.heap H locs → lv_has ls 4 [(3, .int v3_5), (0, .ref (a 0)), (1, .int p1), (2, .int p2)] → W p l e (rmk 1 25) s m [.ref (a 0), .int p1, .int p2].toArray below meth c H locs 0 0 (MQ below (Qct E A (wX4 E a m0') (some (.int r))) [.ref (a 0), .int p1, .int p2].toArray s 0 0 A) (F0 m 39 ls []) := by
        intro k_5
        induction k_5 with
        | zero =>
          intro v3_5 m0_5 hf
          rw [lp_X4_feed_39] at hf
          cases hf
        | succ k_5 ih_5 =>
          intro v3_5 m0_5 hf H locs ls hP hD hS hl
          rw [lp_X4_feed_39] at hf
          refine lv_iload_n hx hb dX4_feed_39 rfl (lv_at hl 0 rfl) ?_
          refine lv_if_lt (tgt := 75) hx hb dX4_feed_40 (by decide) (fun c6 => ?_) (fun c6 => ?_)
          · have hf := ip c6 hf
            refine lv_aload_n hx hb dX4_feed_75 rfl (lv_at hl 1 rfl) ?_
            refine va_get (D := E.1) (ci := 4) (v := .int (g4_taped m0_5)) (C := RX4) (T := TX4) (N := 18) hx hb hts inX4 hown hE.2.1 hP 0 rfl rfl 7 (by decide) (hE.w tw_605) (fun _ h9 => h9) rfl dX4_feed_76 ?_
            obtain ⟨rfl, rfl⟩ := so2 hf
            exact rt_i hx hb hr hlocks hP hD hS dX4_feed_79
          · have hf := im c6 hf
            refine lv_aload_n hx hb dX4_feed_43 rfl (lv_at hl 1 rfl) ?_
            refine va_get (D := E.1) (ci := 4) (v := .ref (a 7)) (C := RX4) (T := TX4) (N := 18) hx hb hts inX4 hown hE.2.1 hP 0 rfl rfl 6 (by decide) (hE.w tw_604) (fun _ h9 => h9) rfl dX4_feed_44 ?_
            refine lv_aload_n hx hb dX4_feed_47 rfl (lv_at hl 1 rfl) ?_
            refine va_get (D := E.1) (ci := 4) (v := .int (g4_taped m0_5)) (C := RX4) (T := TX4) (N := 18) hx hb hts inX4 hown hE.2.1 hP 0 rfl rfl 7 (by decide) (hE.w tw_605) (fun _ h9 => h9) rfl dX4_feed_48 ?_
            refine lv_iload_n hx hb dX4_feed_51 rfl (lv_at hl 2 rfl) ?_
            refine lv_bipush (v := (8 : Int32)) hx hb dX4_feed_52 (by decide) ?_
            refine lv_iload_n hx hb dX4_feed_54 rfl (lv_at hl 0 rfl) ?_
            refine lv_imul hx hb dX4_feed_55 ?_
            refine lv_ishr hx hb dX4_feed_56 ?_
            refine lv_i2b (v := ((p1 >>> (((8 : Int32) * v3_5) &&& 31)).toInt8.toInt32)) hx hb dX4_feed_57 rfl ?_
            obtain ⟨hg7, hf⟩ := gd_some hf
            obtain ⟨m_8, em_8, hf⟩ := jn1_some hf
            refine va_bast hx hb hE.2.1 hP hD hS 6 2 rfl rfl hg7 dX4_feed_58 (fun H locs hP hD hS => ?_)
            have hP : va_P E.1 vwCl (wX4 E a m_8) H := wst (by rw [em_8]; exact rfl) hP
            have hD : va_D A (wX4 E a m_8) := wsd (by rw [em_8]; exact rfl) hD
            refine lv_aload_n hx hb dX4_feed_59 rfl (lv_at hl 1 rfl) ?_
            refine lv_dup hx hb dX4_feed_60 rfl ?_
            refine va_get (D := E.1) (ci := 4) (v := .int (g4_taped m_8)) (C := RX4) (T := TX4) (N := 18) hx hb hts inX4 hown hE.2.1 hP 0 rfl rfl 7 (by decide) (hE.w tw_605) (fun _ h9 => h9) rfl dX4_feed_61 ?_
            refine lv_iconst (v := (1 : Int32)) hx hb dX4_feed_64 (by decide) ?_
            refine lv_iadd hx hb dX4_feed_65 ?_
            obtain ⟨m_9, em_9, hf⟩ := jn1_some hf
            refine va_put (D := E.1) (ci := 4) (v := .int ((g4_taped m_8) + (1 : Int32))) (ty := .int) (C := RX4) (T := TX4) (N := 18) hx hb hts inX4 tyX4 tyX4_ok nmX4 hown hE.2.1 hP hD hS 0 rfl rfl 7 (by decide) (hE.w tw_605) (fun _ h9 => h9) rfl (by decide +kernel) rfl rfl (Nat.le_of_ble_eq_true rfl) dX4_feed_66 (fun H locs hP hD hS => ?_)
            have hP : va_P E.1 vwCl (wX4 E a m_9) H := wst (by rw [em_9]; exact rfl) hP
            have hD : va_D A (wX4 E a m_9) := wsd (by rw [em_9]; exact rfl) hD
            refine lv_iinc (v := (v3_5 + (-1 : Int32))) (lv' := [(3, .int (v3_5 + (-1 : Int32))), (0, .ref (a 0)), (1, .int p1), (2, .int p2)]) hx hb dX4_feed_69 hl (k := 0) rfl rfl (by decide) rfl (fun ls hl => ?_)
            refine lv_goto (tgt := 39) hx hb dX4_feed_72 (by decide) ?_
            exact ih_5 _ _ hf _ _ _ hP hD hS (lv_sub hl [0, 1, 2, 3] rfl)
      exact L_5 _ _ _ hf _ _ _ hP hD hS (lv_sub hl [0, 1, 2, 3] rfl)
    · have hf := im c4 hf
      refine lv_aload_n hx hb dX4_feed_29 rfl (lv_at hl 0 rfl) ?_
      refine lv_iconst (v := (1 : Int32)) hx hb dX4_feed_30 (by decide) ?_
      obtain ⟨r11, m12, hc10, hf⟩ := bd2_some hf
      refine cV (X := List.take 0 (wX4 E a m0)) (Y := List.drop 12 (wX4 E a m0)) (w := (wX4 E a m0)) (w' := (wX4 E a m12)) (q0 := 0) lk_X4_92 hx hb hml hown hE hA (c_X4_finds l E a m0 (1 : Int32) r11 m12 hc10) rfl rfl hP hD hS rfl rfl ⟨rfl, rfl, Nat.le_of_ble_eq_true rfl, Nat.le_of_ble_eq_true rfl⟩ hl.1 (As := [.int (1 : Int32)]) (rest := []) rfl rfl (Nat.le_of_ble_eq_true rfl) ⟨Nat.zero_le _, Nat.zero_le _⟩ dX4_feed_31 (fun H locs hP hD hS => ?_)
      refine W.eq (g2 := F0 m 34 ls [.int r11]) rfl ?_
      obtain ⟨rfl, rfl⟩ := so2 hf
      exact rt_i hx hb hr hlocks hP hD hS dX4_feed_34
  · have hf := ip c3 hf
    refine lv_aload_n hx hb dX4_feed_12 rfl (lv_at hl 0 rfl) ?_
    refine lv_iconst (v := (0 : Int32)) hx hb dX4_feed_13 (by decide) ?_
    obtain ⟨r14, m15, hc13, hf⟩ := bd2_some hf
    refine cV (X := List.take 0 (wX4 E a m0)) (Y := List.drop 12 (wX4 E a m0)) (w := (wX4 E a m0)) (w' := (wX4 E a m15)) (q0 := 0) lk_X4_92 hx hb hml hown hE hA (c_X4_finds l E a m0 (0 : Int32) r14 m15 hc13) rfl rfl hP hD hS rfl rfl ⟨rfl, rfl, Nat.le_of_ble_eq_true rfl, Nat.le_of_ble_eq_true rfl⟩ hl.1 (As := [.int (0 : Int32)]) (rest := []) rfl rfl (Nat.le_of_ble_eq_true rfl) ⟨Nat.zero_le _, Nat.zero_le _⟩ dX4_feed_14 (fun H locs hP hD hS => ?_)
    refine W.eq (g2 := F0 m 17 ls [.int r14]) rfl ?_
    obtain ⟨rfl, rfl⟩ := so2 hf
    exact rt_i hx hb hr hlocks hP hD hS dX4_feed_17
def f_X4_wipe (m0 : MS) : Option (Int32 × MS) := jn1 (s4_taped m0 (0 : Int32)) (fun m_1 => some ((g4_taped m0), m_1))
set_option maxHeartbeats 4000000 in
set_option maxRecDepth 100000 in
theorem c_X4_wipe (l : Launch) (E : EV) (a : Nat → Nat) (m0 : MS)  (r : Int32) (m0' : MS) (hf : f_X4_wipe m0 = some (r, m0')) : Ct l E yX4_wipe cX4_wipe 2 ((Option.some FieldType.int)) (rmk 0 0) [.ref (a 0)] (wX4 E a m0) (wX4 E a m0') (some (.int r)) := by
  refine Ct.of (by decide) (Nat.le_of_ble_eq_true rfl) ?_
  intro p e s m below meth c A ls hC hP hD hl
  obtain ⟨hx, hb, hr, hml, hown, hlocks, hE, hA⟩ := hC
  have hts : ∀ w ∈ tbl, w.before [.ref (a 0)].toArray s = true := fun w hw => hE.w hw
  have hS : va_S A s.heap s.heap [] := va_S.rf
  have hl : lv_has ls 2 [(0, .ref (a 0))] := hl
  unfold f_X4_wipe at hf
  refine lv_aload_n hx hb dX4_wipe_0 rfl (lv_at hl 0 rfl) ?_
  refine va_get (D := E.1) (ci := 4) (v := .int (g4_taped m0)) (C := RX4) (T := TX4) (N := 18) hx hb hts inX4 hown hE.2.1 hP 0 rfl rfl 7 (by decide) (hE.w tw_605) (fun _ h9 => h9) rfl dX4_wipe_1 ?_
  refine lv_istore_n (lv' := [(1, .int (g4_taped m0)), (0, .ref (a 0))]) hx hb dX4_wipe_4 rfl hl (by decide) rfl (fun ls hl => ?_)
  refine lv_aload_n hx hb dX4_wipe_5 rfl (lv_at hl 1 rfl) ?_
  refine lv_iconst (v := (0 : Int32)) hx hb dX4_wipe_6 (by decide) ?_
  obtain ⟨m_1, em_1, hf⟩ := jn1_some hf
  refine va_put (D := E.1) (ci := 4) (v := .int (0 : Int32)) (ty := .int) (C := RX4) (T := TX4) (N := 18) hx hb hts inX4 tyX4 tyX4_ok nmX4 hown hE.2.1 hP hD hS 0 rfl rfl 7 (by decide) (hE.w tw_605) (fun _ h9 => h9) rfl (by decide +kernel) rfl rfl (Nat.le_of_ble_eq_true rfl) dX4_wipe_7 (fun H locs hP hD hS => ?_)
  have hP : va_P E.1 vwCl (wX4 E a m_1) H := wst (by rw [em_1]; exact rfl) hP
  have hD : va_D A (wX4 E a m_1) := wsd (by rw [em_1]; exact rfl) hD
  refine lv_iload_n hx hb dX4_wipe_10 rfl (lv_at hl 0 rfl) ?_
  obtain ⟨rfl, rfl⟩ := so2 hf
  exact rt_i hx hb hr hlocks hP hD hS dX4_wipe_11
def f_X4_letter (p1 : Int32) : Option (Int32) := if p1 < (97 : Int32) then some ((0 : Int32)) else if (122 : Int32) < p1 then some ((0 : Int32)) else some (((p1 - (97 : Int32)) + (1 : Int32)))
set_option maxHeartbeats 4000000 in
set_option maxRecDepth 100000 in
theorem c_X4_letter (l : Launch) (E : EV)  (p1 : Int32)  (r : Int32) (hf : f_X4_letter p1 = some r) : Ct l E yX4_letter cX4_letter 1 ((Option.some FieldType.int)) (rmk 0 0) [.int p1] ([] : va_W) ([] : va_W) (some (.int r)) := by
  refine Ct.of (by decide) (Nat.le_of_ble_eq_true rfl) ?_
  intro p e s m below meth c A ls hC hP hD hl
  obtain ⟨hx, hb, hr, hml, hown, hlocks, hE, hA⟩ := hC
  have hts : ∀ w ∈ tbl, w.before [.int p1].toArray s = true := fun w hw => hE.w hw
  have hS : va_S A s.heap s.heap [] := va_S.rf
  have hl : lv_has ls 1 [(0, .int p1)] := hl
  unfold f_X4_letter at hf
  refine lv_iload_n hx hb dX4_letter_0 rfl (lv_at hl 0 rfl) ?_
  refine lv_bipush (v := (97 : Int32)) hx hb dX4_letter_1 (by decide) ?_
  refine lv_icmp_lt (tgt := 21) hx hb dX4_letter_3 (by decide) (fun c1 => ?_) (fun c1 => ?_)
  · have hf := ip c1 hf
    refine lv_iconst (v := (0 : Int32)) hx hb dX4_letter_21 (by decide) ?_
    obtain rfl := so1 hf
    exact rt_i hx hb hr hlocks hP hD hS dX4_letter_22
  · have hf := im c1 hf
    refine lv_iload_n hx hb dX4_letter_6 rfl (lv_at hl 0 rfl) ?_
    refine lv_bipush (v := (122 : Int32)) hx hb dX4_letter_7 (by decide) ?_
    refine lv_icmp_gt (tgt := 21) hx hb dX4_letter_9 (by decide) (fun c2 => ?_) (fun c2 => ?_)
    · have hf := ip c2 hf
      refine lv_iconst (v := (0 : Int32)) hx hb dX4_letter_21 (by decide) ?_
      obtain rfl := so1 hf
      exact rt_i hx hb hr hlocks hP hD hS dX4_letter_22
    · have hf := im c2 hf
      refine lv_iload_n hx hb dX4_letter_12 rfl (lv_at hl 0 rfl) ?_
      refine lv_bipush (v := (97 : Int32)) hx hb dX4_letter_13 (by decide) ?_
      refine lv_isub hx hb dX4_letter_15 ?_
      refine lv_iconst (v := (1 : Int32)) hx hb dX4_letter_16 (by decide) ?_
      refine lv_iadd hx hb dX4_letter_17 ?_
      refine lv_goto (tgt := 22) hx hb dX4_letter_18 (by decide) ?_
      obtain rfl := so1 hf
      exact rt_i hx hb hr hlocks hP hD hS dX4_letter_22
def f_X4_isDigit (p1 : Int32) : Option (Bool) := if p1 < (48 : Int32) then some (false) else if (57 : Int32) < p1 then some (false) else some (true)
set_option maxHeartbeats 4000000 in
set_option maxRecDepth 100000 in
theorem c_X4_isDigit (l : Launch) (E : EV)  (p1 : Int32)  (r : Bool) (hf : f_X4_isDigit p1 = some r) : Ct l E yX4_isDigit cX4_isDigit 1 ((Option.some FieldType.boolean)) (rmk 0 0) [.int p1] ([] : va_W) ([] : va_W) (some (.int (bI r))) := by
  refine Ct.of (by decide) (Nat.le_of_ble_eq_true rfl) ?_
  intro p e s m below meth c A ls hC hP hD hl
  obtain ⟨hx, hb, hr, hml, hown, hlocks, hE, hA⟩ := hC
  have hts : ∀ w ∈ tbl, w.before [.int p1].toArray s = true := fun w hw => hE.w hw
  have hS : va_S A s.heap s.heap [] := va_S.rf
  have hl : lv_has ls 1 [(0, .int p1)] := hl
  unfold f_X4_isDigit at hf
  refine lv_iload_n hx hb dX4_isDigit_0 rfl (lv_at hl 0 rfl) ?_
  refine lv_bipush (v := (48 : Int32)) hx hb dX4_isDigit_1 (by decide) ?_
  refine lv_icmp_lt (tgt := 16) hx hb dX4_isDigit_3 (by decide) (fun c1 => ?_) (fun c1 => ?_)
  · have hf := ip c1 hf
    refine lv_iconst (v := (0 : Int32)) hx hb dX4_isDigit_16 (by decide) ?_
    obtain rfl := so1 hf
    exact rt_z (bI_nar _) hx hb hr hlocks hP hD hS dX4_isDigit_17
  · have hf := im c1 hf
    refine lv_iload_n hx hb dX4_isDigit_6 rfl (lv_at hl 0 rfl) ?_
    refine lv_bipush (v := (57 : Int32)) hx hb dX4_isDigit_7 (by decide) ?_
    refine lv_icmp_gt (tgt := 16) hx hb dX4_isDigit_9 (by decide) (fun c2 => ?_) (fun c2 => ?_)
    · have hf := ip c2 hf
      refine lv_iconst (v := (0 : Int32)) hx hb dX4_isDigit_16 (by decide) ?_
      obtain rfl := so1 hf
      exact rt_z (bI_nar _) hx hb hr hlocks hP hD hS dX4_isDigit_17
    · have hf := im c2 hf
      refine lv_iconst (v := (1 : Int32)) hx hb dX4_isDigit_12 (by decide) ?_
      refine lv_goto (tgt := 17) hx hb dX4_isDigit_13 (by decide) ?_
      obtain rfl := so1 hf
      exact rt_z (bI_nar _) hx hb hr hlocks hP hD hS dX4_isDigit_17
def f_X4_byteAt (m0 : MS) (p1 : Int32) : Option (Int32) := if (g4_taped m0) ≤ p1 then some ((-1 : Int32)) else gd p1 120 (some (((g4_tape m0) p1.toNatClampNeg)))
set_option maxHeartbeats 4000000 in
set_option maxRecDepth 100000 in
theorem c_X4_byteAt (l : Launch) (E : EV) (a : Nat → Nat) (m0 : MS) (p1 : Int32)  (r : Int32) (hf : f_X4_byteAt m0 p1 = some r) : Ct l E yX4_byteAt cX4_byteAt 2 ((Option.some FieldType.int)) (rmk 0 0) [.ref (a 0), .int p1] (wX4 E a m0) (wX4 E a m0) (some (.int r)) := by
  refine Ct.of (by decide) (Nat.le_of_ble_eq_true rfl) ?_
  intro p e s m below meth c A ls hC hP hD hl
  obtain ⟨hx, hb, hr, hml, hown, hlocks, hE, hA⟩ := hC
  have hts : ∀ w ∈ tbl, w.before [.ref (a 0), .int p1].toArray s = true := fun w hw => hE.w hw
  have hS : va_S A s.heap s.heap [] := va_S.rf
  have hl : lv_has ls 2 [(0, .ref (a 0)), (1, .int p1)] := hl
  unfold f_X4_byteAt at hf
  refine lv_iload_n hx hb dX4_byteAt_0 rfl (lv_at hl 1 rfl) ?_
  refine lv_aload_n hx hb dX4_byteAt_1 rfl (lv_at hl 0 rfl) ?_
  refine va_get (D := E.1) (ci := 4) (v := .int (g4_taped m0)) (C := RX4) (T := TX4) (N := 18) hx hb hts inX4 hown hE.2.1 hP 0 rfl rfl 7 (by decide) (hE.w tw_605) (fun _ h9 => h9) rfl dX4_byteAt_2 ?_
  refine lv_icmp_ge (tgt := 17) hx hb dX4_byteAt_5 (by decide) (fun c1 => ?_) (fun c1 => ?_)
  · have hf := ip c1 hf
    refine lv_iconst (v := (-1 : Int32)) hx hb dX4_byteAt_17 (by decide) ?_
    obtain rfl := so1 hf
    exact rt_i hx hb hr hlocks hP hD hS dX4_byteAt_18
  · have hf := im c1 hf
    refine lv_aload_n hx hb dX4_byteAt_8 rfl (lv_at hl 0 rfl) ?_
    refine va_get (D := E.1) (ci := 4) (v := .ref (a 7)) (C := RX4) (T := TX4) (N := 18) hx hb hts inX4 hown hE.2.1 hP 0 rfl rfl 6 (by decide) (hE.w tw_604) (fun _ h9 => h9) rfl dX4_byteAt_9 ?_
    refine lv_iload_n hx hb dX4_byteAt_12 rfl (lv_at hl 1 rfl) ?_
    obtain ⟨hg2, hf⟩ := gd_some hf
    refine va_bald hx hb hE.2.1 hP 6 2 rfl rfl hg2 dX4_byteAt_13 ?_
    refine lv_goto (tgt := 18) hx hb dX4_byteAt_14 (by decide) ?_
    obtain rfl := so1 hf
    exact rt_i hx hb hr hlocks hP hD hS dX4_byteAt_18
