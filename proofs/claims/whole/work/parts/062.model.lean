def f_X4_behind (m0 : MS) (p1 : Int32) (p2 : Int32) : Option (Int32 × MS) := bd1 (f_X4_momentsGo m0 p1) (fun m2 => gd p2 67 (bd1 (f_X4_copies_aside_d m2) (fun m5 => some (((g4_d m2) p2.toNatClampNeg), m5))))
set_option maxHeartbeats 4000000 in
set_option maxRecDepth 100000 in
theorem c_X4_behind (l : Launch) (E : EV) (a : Nat → Nat) (m0 : MS) (p1 : Int32) (p2 : Int32)  (r : Int32) (m0' : MS) (hf : f_X4_behind m0 p1 p2 = some (r, m0')) : Ct l E yX4_behind cX4_behind 4 ((Option.some FieldType.int)) (rmk 6 137) [.ref (a 0), .int p1, .int p2] (wX4 E a m0) (wX4 E a m0') (some (.int r)) := by
  refine Ct.of (by decide) (Nat.le_of_ble_eq_true rfl) ?_
  intro p e s m below meth c A ls hC hP hD hl
  obtain ⟨hx, hb, hr, hml, hown, hlocks, hE, hA⟩ := hC
  have hts : ∀ w ∈ tbl, w.before [.ref (a 0), .int p1, .int p2].toArray s = true := fun w hw => hE.w hw
  have hS : va_S A s.heap s.heap [] := va_S.rf
  have hl : lv_has ls 4 [(0, .ref (a 0)), (1, .int p1), (2, .int p2)] := hl
  unfold f_X4_behind at hf
  refine lv_aload_n hx hb dX4_behind_0 rfl (lv_at hl 0 rfl) ?_
  refine lv_iload_n hx hb dX4_behind_1 rfl (lv_at hl 1 rfl) ?_
  obtain ⟨m2, hc1, hf⟩ := bd1_some hf
  refine cV (X := List.take 0 (wX4 E a m0)) (Y := List.drop 12 (wX4 E a m0)) (w := (wX4 E a m0)) (w' := (wX4 E a m2)) (q0 := 0) lk_X4_125 hx hb hml hown hE hA (c_X4_momentsGo l E a m0 p1 m2 hc1) rfl rfl hP hD hS rfl rfl ⟨rfl, rfl, Nat.le_of_ble_eq_true rfl, Nat.le_of_ble_eq_true rfl⟩ hl.1 (As := [.int p1]) (rest := []) rfl rfl (Nat.le_of_ble_eq_true rfl) ⟨Nat.zero_le _, Nat.zero_le _⟩ dX4_behind_2 (fun H locs hP hD hS => ?_)
  refine W.eq (g2 := F0 m 5 ls []) rfl ?_
  refine lv_aload_n hx hb dX4_behind_5 rfl (lv_at hl 0 rfl) ?_
  refine va_get (D := E.1) (ci := 4) (v := .ref (a 1)) (C := RX4) (T := TX4) (N := 18) hx hb hts inX4 hown hE.2.1 hP 0 rfl rfl 0 (by decide) (hE.w tw_598) (fun _ h9 => h9) rfl dX4_behind_6 ?_
  refine lv_iload_n hx hb dX4_behind_9 rfl (lv_at hl 2 rfl) ?_
  obtain ⟨hg3, hf⟩ := gd_some hf
  refine va_iald hx hb hE.2.1 hP 1 0 rfl rfl hg3 dX4_behind_10 ?_
  refine lv_istore_n (lv' := [(3, .int ((g4_d m2) p2.toNatClampNeg)), (0, .ref (a 0)), (1, .int p1), (2, .int p2)]) hx hb dX4_behind_11 rfl hl (by decide) rfl (fun ls hl => ?_)
  refine lv_aload_n hx hb dX4_behind_12 rfl (lv_at hl 1 rfl) ?_
  refine va_get (D := E.1) (ci := 4) (v := .ref (a 3)) (C := RX4) (T := TX4) (N := 18) hx hb hts inX4 hown hE.2.1 hP 0 rfl rfl 2 (by decide) (hE.w tw_600) (fun _ h9 => h9) rfl dX4_behind_13 ?_
  refine lv_aload_n hx hb dX4_behind_16 rfl (lv_at hl 1 rfl) ?_
  refine va_get (D := E.1) (ci := 4) (v := .ref (a 1)) (C := RX4) (T := TX4) (N := 18) hx hb hts inX4 hown hE.2.1 hP 0 rfl rfl 0 (by decide) (hE.w tw_598) (fun _ h9 => h9) rfl dX4_behind_17 ?_
  obtain ⟨m5, hc4, hf⟩ := bd1_some hf
  refine cS (X := List.take 0 (wX4 E a m2)) (Y := List.drop 12 (wX4 E a m2)) (w := (wX4 E a m2)) (w' := (wX4 E a m5)) lk_X4_129 hx hb hml hown hE hA (c_X4_copies_aside_d l E a m2 m5 hc4) rfl rfl hP hD hS ⟨rfl, rfl, Nat.le_of_ble_eq_true rfl, Nat.le_of_ble_eq_true rfl⟩ hl.1 (As := [.ref (a 3), .ref (a 1)]) (rest := []) rfl rfl (Nat.le_of_ble_eq_true rfl) ⟨Nat.zero_le _, Nat.zero_le _⟩ dX4_behind_20 (fun H locs hP hD hS => ?_)
  refine W.eq (g2 := F0 m 23 ls []) rfl ?_
  refine lv_iload_n hx hb dX4_behind_23 rfl (lv_at hl 0 rfl) ?_
  obtain ⟨rfl, rfl⟩ := so2 hf
  exact rt_i hx hb hr hlocks hP hD hS dX4_behind_24
def f_X4_houseBehind (m0 : MS) (p1 : Int32) : Option (Int32 × MS) := bd1 (f_X4_momentsGo m0 p1) (fun m2 => bd1 (f_X4_sumOf m2 (2 : Int32)) (fun r4 => bd1 (f_X4_copies_aside_d m2) (fun m6 => some (r4, m6))))
set_option maxHeartbeats 4000000 in
set_option maxRecDepth 100000 in
theorem c_X4_houseBehind (l : Launch) (E : EV) (a : Nat → Nat) (m0 : MS) (p1 : Int32)  (r : Int32) (m0' : MS) (hf : f_X4_houseBehind m0 p1 = some (r, m0')) : Ct l E yX4_houseBehind cX4_houseBehind 3 ((Option.some FieldType.int)) (rmk 6 137) [.ref (a 0), .int p1] (wX4 E a m0) (wX4 E a m0') (some (.int r)) := by
  refine Ct.of (by decide) (Nat.le_of_ble_eq_true rfl) ?_
  intro p e s m below meth c A ls hC hP hD hl
  obtain ⟨hx, hb, hr, hml, hown, hlocks, hE, hA⟩ := hC
  have hts : ∀ w ∈ tbl, w.before [.ref (a 0), .int p1].toArray s = true := fun w hw => hE.w hw
  have hS : va_S A s.heap s.heap [] := va_S.rf
  have hl : lv_has ls 3 [(0, .ref (a 0)), (1, .int p1)] := hl
  unfold f_X4_houseBehind at hf
  refine lv_aload_n hx hb dX4_houseBehind_0 rfl (lv_at hl 0 rfl) ?_
  refine lv_iload_n hx hb dX4_houseBehind_1 rfl (lv_at hl 1 rfl) ?_
  obtain ⟨m2, hc1, hf⟩ := bd1_some hf
  refine cV (X := List.take 0 (wX4 E a m0)) (Y := List.drop 12 (wX4 E a m0)) (w := (wX4 E a m0)) (w' := (wX4 E a m2)) (q0 := 0) lk_X4_125 hx hb hml hown hE hA (c_X4_momentsGo l E a m0 p1 m2 hc1) rfl rfl hP hD hS rfl rfl ⟨rfl, rfl, Nat.le_of_ble_eq_true rfl, Nat.le_of_ble_eq_true rfl⟩ hl.1 (As := [.int p1]) (rest := []) rfl rfl (Nat.le_of_ble_eq_true rfl) ⟨Nat.zero_le _, Nat.zero_le _⟩ dX4_houseBehind_2 (fun H locs hP hD hS => ?_)
  refine W.eq (g2 := F0 m 5 ls []) rfl ?_
  refine lv_aload_n hx hb dX4_houseBehind_5 rfl (lv_at hl 0 rfl) ?_
  refine lv_iconst (v := (2 : Int32)) hx hb dX4_houseBehind_6 (by decide) ?_
  obtain ⟨r4, hc3, hf⟩ := bd1_some hf
  refine cV (X := List.take 0 (wX4 E a m2)) (Y := List.drop 12 (wX4 E a m2)) (w := (wX4 E a m2)) (w' := (wX4 E a m2)) (q0 := 0) lk_X4_98 hx hb hml hown hE hA (c_X4_sumOf l E a m2 (2 : Int32) r4 hc3) rfl rfl hP hD hS rfl rfl ⟨rfl, rfl, Nat.le_of_ble_eq_true rfl, Nat.le_of_ble_eq_true rfl⟩ hl.1 (As := [.int (2 : Int32)]) (rest := []) rfl rfl (Nat.le_of_ble_eq_true rfl) ⟨Nat.zero_le _, Nat.zero_le _⟩ dX4_houseBehind_7 (fun H locs hP hD hS => ?_)
  refine W.eq (g2 := F0 m 10 ls [.int r4]) rfl ?_
  refine lv_istore_n (lv' := [(2, .int r4), (0, .ref (a 0)), (1, .int p1)]) hx hb dX4_houseBehind_10 rfl hl (by decide) rfl (fun ls hl => ?_)
  refine lv_aload_n hx hb dX4_houseBehind_11 rfl (lv_at hl 1 rfl) ?_
  refine va_get (D := E.1) (ci := 4) (v := .ref (a 3)) (C := RX4) (T := TX4) (N := 18) hx hb hts inX4 hown hE.2.1 hP 0 rfl rfl 2 (by decide) (hE.w tw_600) (fun _ h9 => h9) rfl dX4_houseBehind_12 ?_
  refine lv_aload_n hx hb dX4_houseBehind_15 rfl (lv_at hl 1 rfl) ?_
  refine va_get (D := E.1) (ci := 4) (v := .ref (a 1)) (C := RX4) (T := TX4) (N := 18) hx hb hts inX4 hown hE.2.1 hP 0 rfl rfl 0 (by decide) (hE.w tw_598) (fun _ h9 => h9) rfl dX4_houseBehind_16 ?_
  obtain ⟨m6, hc5, hf⟩ := bd1_some hf
  refine cS (X := List.take 0 (wX4 E a m2)) (Y := List.drop 12 (wX4 E a m2)) (w := (wX4 E a m2)) (w' := (wX4 E a m6)) lk_X4_129 hx hb hml hown hE hA (c_X4_copies_aside_d l E a m2 m6 hc5) rfl rfl hP hD hS ⟨rfl, rfl, Nat.le_of_ble_eq_true rfl, Nat.le_of_ble_eq_true rfl⟩ hl.1 (As := [.ref (a 3), .ref (a 1)]) (rest := []) rfl rfl (Nat.le_of_ble_eq_true rfl) ⟨Nat.zero_le _, Nat.zero_le _⟩ dX4_houseBehind_19 (fun H locs hP hD hS => ?_)
  refine W.eq (g2 := F0 m 22 ls []) rfl ?_
  refine lv_iload_n hx hb dX4_houseBehind_22 rfl (lv_at hl 0 rfl) ?_
  obtain ⟨rfl, rfl⟩ := so2 hf
  exact rt_i hx hb hr hlocks hP hD hS dX4_houseBehind_23
def f_X4_isAhead (p1 : Int32) : Option (Bool) := bd1 (f_X4_in (p1.toInt64) (0 : Int64) (400 : Int64)) (fun r2 => some (r2))
set_option maxHeartbeats 4000000 in
set_option maxRecDepth 100000 in
theorem c_X4_isAhead (l : Launch) (E : EV)  (p1 : Int32)  (r : Bool) (hf : f_X4_isAhead p1 = some r) : Ct l E yX4_isAhead cX4_isAhead 1 ((Option.some FieldType.boolean)) (rmk 1 25) [.int p1] ([] : va_W) ([] : va_W) (some (.int (bI r))) := by
  refine Ct.of (by decide) (Nat.le_of_ble_eq_true rfl) ?_
  intro p e s m below meth c A ls hC hP hD hl
  obtain ⟨hx, hb, hr, hml, hown, hlocks, hE, hA⟩ := hC
  have hts : ∀ w ∈ tbl, w.before [.int p1].toArray s = true := fun w hw => hE.w hw
  have hS : va_S A s.heap s.heap [] := va_S.rf
  have hl : lv_has ls 1 [(0, .int p1)] := hl
  unfold f_X4_isAhead at hf
  refine lv_iload_n hx hb dX4_isAhead_0 rfl (lv_at hl 0 rfl) ?_
  refine lv_i2l (v := (p1.toInt64)) hx hb dX4_isAhead_1 rfl ?_
  refine lv_lconst (v := (0 : Int64)) hx hb dX4_isAhead_2 (by decide) ?_
  refine lv_ldc2 (v := (400 : Int64)) hx hb hown (hE.w tw_781) dX4_isAhead_3 ?_
  obtain ⟨r2, hc1, hf⟩ := bd1_some hf
  refine cS (X := List.take 0 ([] : va_W)) (Y := List.drop 0 ([] : va_W)) (w := ([] : va_W)) (w' := ([] : va_W)) lk_X4_46 hx hb hml hown hE hA (c_X4_in l E (p1.toInt64) (0 : Int64) (400 : Int64) r2 hc1) rfl rfl hP hD hS ⟨rfl, rfl, Nat.le_of_ble_eq_true rfl, Nat.le_of_ble_eq_true rfl⟩ hl.1 (As := [.long (p1.toInt64), .long (0 : Int64), .long (400 : Int64)]) (rest := []) rfl rfl (Nat.le_of_ble_eq_true rfl) ⟨Nat.zero_le _, Nat.zero_le _⟩ dX4_isAhead_6 (fun H locs hP hD hS => ?_)
  refine W.eq (g2 := F0 m 9 ls [.int (bI r2)]) rfl ?_
  obtain rfl := so1 hf
  exact rt_z (bI_nar _) hx hb hr hlocks hP hD hS dX4_isAhead_9
def f_X4_isShort (p1 : Int32) : Option (Bool) := bd1 (f_X4_in (p1.toInt64) (1 : Int64) (100 : Int64)) (fun r2 => some (r2))
set_option maxHeartbeats 4000000 in
set_option maxRecDepth 100000 in
theorem c_X4_isShort (l : Launch) (E : EV)  (p1 : Int32)  (r : Bool) (hf : f_X4_isShort p1 = some r) : Ct l E yX4_isShort cX4_isShort 1 ((Option.some FieldType.boolean)) (rmk 1 25) [.int p1] ([] : va_W) ([] : va_W) (some (.int (bI r))) := by
  refine Ct.of (by decide) (Nat.le_of_ble_eq_true rfl) ?_
  intro p e s m below meth c A ls hC hP hD hl
  obtain ⟨hx, hb, hr, hml, hown, hlocks, hE, hA⟩ := hC
  have hts : ∀ w ∈ tbl, w.before [.int p1].toArray s = true := fun w hw => hE.w hw
  have hS : va_S A s.heap s.heap [] := va_S.rf
  have hl : lv_has ls 1 [(0, .int p1)] := hl
  unfold f_X4_isShort at hf
  refine lv_iload_n hx hb dX4_isShort_0 rfl (lv_at hl 0 rfl) ?_
  refine lv_i2l (v := (p1.toInt64)) hx hb dX4_isShort_1 rfl ?_
  refine lv_lconst (v := (1 : Int64)) hx hb dX4_isShort_2 (by decide) ?_
  refine lv_ldc2 (v := (100 : Int64)) hx hb hown (hE.w tw_824) dX4_isShort_3 ?_
  obtain ⟨r2, hc1, hf⟩ := bd1_some hf
  refine cS (X := List.take 0 ([] : va_W)) (Y := List.drop 0 ([] : va_W)) (w := ([] : va_W)) (w' := ([] : va_W)) lk_X4_46 hx hb hml hown hE hA (c_X4_in l E (p1.toInt64) (1 : Int64) (100 : Int64) r2 hc1) rfl rfl hP hD hS ⟨rfl, rfl, Nat.le_of_ble_eq_true rfl, Nat.le_of_ble_eq_true rfl⟩ hl.1 (As := [.long (p1.toInt64), .long (1 : Int64), .long (100 : Int64)]) (rest := []) rfl rfl (Nat.le_of_ble_eq_true rfl) ⟨Nat.zero_le _, Nat.zero_le _⟩ dX4_isShort_6 (fun H locs hP hD hS => ?_)
  refine W.eq (g2 := F0 m 9 ls [.int (bI r2)]) rfl ?_
  obtain rfl := so1 hf
  exact rt_z (bI_nar _) hx hb hr hlocks hP hD hS dX4_isShort_9
def f_X4_whereNote (m0 : MS) (p1 : Int32) : Option (Int32) := some ((((35 : Int32) + ((4 : Int32) * p1)) + (2 : Int32)))
set_option maxHeartbeats 4000000 in
set_option maxRecDepth 100000 in
theorem c_X4_whereNote (l : Launch) (E : EV) (a : Nat → Nat) (m0 : MS) (p1 : Int32)  (r : Int32) (hf : f_X4_whereNote m0 p1 = some r) : Ct l E yX4_whereNote cX4_whereNote 2 ((Option.some FieldType.int)) (rmk 0 0) [.ref (a 0), .int p1] (wX4 E a m0) (wX4 E a m0) (some (.int r)) := by
  refine Ct.of (by decide) (Nat.le_of_ble_eq_true rfl) ?_
  intro p e s m below meth c A ls hC hP hD hl
  obtain ⟨hx, hb, hr, hml, hown, hlocks, hE, hA⟩ := hC
  have hts : ∀ w ∈ tbl, w.before [.ref (a 0), .int p1].toArray s = true := fun w hw => hE.w hw
  have hS : va_S A s.heap s.heap [] := va_S.rf
  have hl : lv_has ls 2 [(0, .ref (a 0)), (1, .int p1)] := hl
  unfold f_X4_whereNote at hf
  refine lv_bipush (v := (35 : Int32)) hx hb dX4_whereNote_0 (by decide) ?_
  refine lv_iconst (v := (4 : Int32)) hx hb dX4_whereNote_2 (by decide) ?_
  refine lv_iload_n hx hb dX4_whereNote_3 rfl (lv_at hl 1 rfl) ?_
  refine lv_imul hx hb dX4_whereNote_4 ?_
  refine lv_iadd hx hb dX4_whereNote_5 ?_
  refine lv_iconst (v := (2 : Int32)) hx hb dX4_whereNote_6 (by decide) ?_
  refine lv_iadd hx hb dX4_whereNote_7 ?_
  obtain rfl := so1 hf
  exact rt_i hx hb hr hlocks hP hD hS dX4_whereNote_8
def f_X4_note (m0 : MS) (p1 : Int32) (p2 : Int32) : Option (Int32 × MS) := bd1 (f_X4_isPerson m0 p1) (fun r2 => if (bI r2) = 0 then bd2 (f_X4_finds m0 (0 : Int32)) (fun r5 m6 => some (r5, m6)) else bd1 (f_X4_isAhead p2) (fun r8 => if (bI r8) = 0 then bd2 (f_X4_finds m0 (0 : Int32)) (fun r18 m19 => some (r18, m19)) else bd1 (f_X4_copies_d_aside m0) (fun m11 => bd1 (f_X4_whereNote m11 p1) (fun r13 => bd2 (f_X4_behind m11 p2 r13) (fun r15 m16 => some (r15, m16))))))
set_option maxHeartbeats 4000000 in
set_option maxRecDepth 100000 in
theorem c_X4_note (l : Launch) (E : EV) (a : Nat → Nat) (m0 : MS) (p1 : Int32) (p2 : Int32)  (r : Int32) (m0' : MS) (hf : f_X4_note m0 p1 p2 = some (r, m0')) : Ct l E yX4_note cX4_note 3 ((Option.some FieldType.int)) (rmk 7 160) [.ref (a 0), .int p1, .int p2] (wX4 E a m0) (wX4 E a m0') (some (.int r)) := by
  refine Ct.of (by decide) (Nat.le_of_ble_eq_true rfl) ?_
  intro p e s m below meth c A ls hC hP hD hl
  obtain ⟨hx, hb, hr, hml, hown, hlocks, hE, hA⟩ := hC
  have hts : ∀ w ∈ tbl, w.before [.ref (a 0), .int p1, .int p2].toArray s = true := fun w hw => hE.w hw
  have hS : va_S A s.heap s.heap [] := va_S.rf
  have hl : lv_has ls 3 [(0, .ref (a 0)), (1, .int p1), (2, .int p2)] := hl
  unfold f_X4_note at hf
  refine lv_aload_n hx hb dX4_note_0 rfl (lv_at hl 0 rfl) ?_
  refine lv_iload_n hx hb dX4_note_1 rfl (lv_at hl 1 rfl) ?_
  obtain ⟨r2, hc1, hf⟩ := bd1_some hf
  refine cV (X := List.take 0 (wX4 E a m0)) (Y := List.drop 12 (wX4 E a m0)) (w := (wX4 E a m0)) (w' := (wX4 E a m0)) (q0 := 0) lk_X4_50 hx hb hml hown hE hA (c_X4_isPerson l E a m0 p1 r2 hc1) rfl rfl hP hD hS rfl rfl ⟨rfl, rfl, Nat.le_of_ble_eq_true rfl, Nat.le_of_ble_eq_true rfl⟩ hl.1 (As := [.int p1]) (rest := []) rfl rfl (Nat.le_of_ble_eq_true rfl) ⟨Nat.zero_le _, Nat.zero_le _⟩ dX4_note_2 (fun H locs hP hD hS => ?_)
  refine W.eq (g2 := F0 m 5 ls [.int (bI r2)]) rfl ?_
  refine lv_if_eq (tgt := 15) hx hb dX4_note_5 (by decide) (fun c3 => ?_) (fun c3 => ?_)
  · have hf := ip c3 hf
    refine lv_aload_n hx hb dX4_note_15 rfl (lv_at hl 0 rfl) ?_
    refine lv_iconst (v := (0 : Int32)) hx hb dX4_note_16 (by decide) ?_
    obtain ⟨r5, m6, hc4, hf⟩ := bd2_some hf
    refine cV (X := List.take 0 (wX4 E a m0)) (Y := List.drop 12 (wX4 E a m0)) (w := (wX4 E a m0)) (w' := (wX4 E a m6)) (q0 := 0) lk_X4_92 hx hb hml hown hE hA (c_X4_finds l E a m0 (0 : Int32) r5 m6 hc4) rfl rfl hP hD hS rfl rfl ⟨rfl, rfl, Nat.le_of_ble_eq_true rfl, Nat.le_of_ble_eq_true rfl⟩ hl.1 (As := [.int (0 : Int32)]) (rest := []) rfl rfl (Nat.le_of_ble_eq_true rfl) ⟨Nat.zero_le _, Nat.zero_le _⟩ dX4_note_17 (fun H locs hP hD hS => ?_)
    refine W.eq (g2 := F0 m 20 ls [.int r5]) rfl ?_
    obtain ⟨rfl, rfl⟩ := so2 hf
    exact rt_i hx hb hr hlocks hP hD hS dX4_note_20
  · have hf := im c3 hf
    refine lv_iload_n hx hb dX4_note_8 rfl (lv_at hl 2 rfl) ?_
    obtain ⟨r8, hc7, hf⟩ := bd1_some hf
    refine cS (X := List.take 0 (wX4 E a m0)) (Y := List.drop 0 (wX4 E a m0)) (w := (wX4 E a m0)) (w' := (wX4 E a m0)) lk_X4_137 hx hb hml hown hE hA (c_X4_isAhead l E p2 r8 hc7) rfl rfl hP hD hS ⟨rfl, rfl, Nat.le_of_ble_eq_true rfl, Nat.le_of_ble_eq_true rfl⟩ hl.1 (As := [.int p2]) (rest := []) rfl rfl (Nat.le_of_ble_eq_true rfl) ⟨Nat.zero_le _, Nat.zero_le _⟩ dX4_note_9 (fun H locs hP hD hS => ?_)
    refine W.eq (g2 := F0 m 12 ls [.int (bI r8)]) rfl ?_
    refine lv_if_ne (tgt := 21) hx hb dX4_note_12 (by decide) (fun c9 => ?_) (fun c9 => ?_)
    · have hf := im c9 hf
      refine lv_aload_n hx hb dX4_note_21 rfl (lv_at hl 0 rfl) ?_
      refine va_get (D := E.1) (ci := 4) (v := .ref (a 1)) (C := RX4) (T := TX4) (N := 18) hx hb hts inX4 hown hE.2.1 hP 0 rfl rfl 0 (by decide) (hE.w tw_598) (fun _ h9 => h9) rfl dX4_note_22 ?_
      refine lv_aload_n hx hb dX4_note_25 rfl (lv_at hl 0 rfl) ?_
      refine va_get (D := E.1) (ci := 4) (v := .ref (a 3)) (C := RX4) (T := TX4) (N := 18) hx hb hts inX4 hown hE.2.1 hP 0 rfl rfl 2 (by decide) (hE.w tw_600) (fun _ h9 => h9) rfl dX4_note_26 ?_
      obtain ⟨m11, hc10, hf⟩ := bd1_some hf
      refine cS (X := List.take 0 (wX4 E a m0)) (Y := List.drop 12 (wX4 E a m0)) (w := (wX4 E a m0)) (w' := (wX4 E a m11)) lk_X4_129 hx hb hml hown hE hA (c_X4_copies_d_aside l E a m0 m11 hc10) rfl rfl hP hD hS ⟨rfl, rfl, Nat.le_of_ble_eq_true rfl, Nat.le_of_ble_eq_true rfl⟩ hl.1 (As := [.ref (a 1), .ref (a 3)]) (rest := []) rfl rfl (Nat.le_of_ble_eq_true rfl) ⟨Nat.zero_le _, Nat.zero_le _⟩ dX4_note_29 (fun H locs hP hD hS => ?_)
      refine W.eq (g2 := F0 m 32 ls []) rfl ?_
      refine lv_aload_n hx hb dX4_note_32 rfl (lv_at hl 0 rfl) ?_
      refine lv_iload_n hx hb dX4_note_33 rfl (lv_at hl 2 rfl) ?_
      refine lv_aload_n hx hb dX4_note_34 rfl (lv_at hl 0 rfl) ?_
      refine lv_iload_n hx hb dX4_note_35 rfl (lv_at hl 1 rfl) ?_
      obtain ⟨r13, hc12, hf⟩ := bd1_some hf
      refine cV (X := List.take 0 (wX4 E a m11)) (Y := List.drop 12 (wX4 E a m11)) (w := (wX4 E a m11)) (w' := (wX4 E a m11)) (q0 := 0) lk_X4_140 hx hb hml hown hE hA (c_X4_whereNote l E a m11 p1 r13 hc12) rfl rfl hP hD hS rfl rfl ⟨rfl, rfl, Nat.le_of_ble_eq_true rfl, Nat.le_of_ble_eq_true rfl⟩ hl.1 (As := [.int p1]) (rest := [.int p2, .ref (a 0)]) rfl rfl (Nat.le_of_ble_eq_true rfl) ⟨Nat.zero_le _, Nat.zero_le _⟩ dX4_note_36 (fun H locs hP hD hS => ?_)
      refine W.eq (g2 := F0 m 39 ls [.int r13, .int p2, .ref (a 0)]) rfl ?_
      obtain ⟨r15, m16, hc14, hf⟩ := bd2_some hf
      refine cV (X := List.take 0 (wX4 E a m11)) (Y := List.drop 12 (wX4 E a m11)) (w := (wX4 E a m11)) (w' := (wX4 E a m16)) (q0 := 0) lk_X4_143 hx hb hml hown hE hA (c_X4_behind l E a m11 p2 r13 r15 m16 hc14) rfl rfl hP hD hS rfl rfl ⟨rfl, rfl, Nat.le_of_ble_eq_true rfl, Nat.le_of_ble_eq_true rfl⟩ hl.1 (As := [.int p2, .int r13]) (rest := []) rfl rfl (Nat.le_of_ble_eq_true rfl) ⟨Nat.zero_le _, Nat.zero_le _⟩ dX4_note_39 (fun H locs hP hD hS => ?_)
      refine W.eq (g2 := F0 m 42 ls [.int r15]) rfl ?_
      obtain ⟨rfl, rfl⟩ := so2 hf
      exact rt_i hx hb hr hlocks hP hD hS dX4_note_42
    · have hf := ip c9 hf
      refine lv_aload_n hx hb dX4_note_15 rfl (lv_at hl 0 rfl) ?_
      refine lv_iconst (v := (0 : Int32)) hx hb dX4_note_16 (by decide) ?_
      obtain ⟨r18, m19, hc17, hf⟩ := bd2_some hf
      refine cV (X := List.take 0 (wX4 E a m0)) (Y := List.drop 12 (wX4 E a m0)) (w := (wX4 E a m0)) (w' := (wX4 E a m19)) (q0 := 0) lk_X4_92 hx hb hml hown hE hA (c_X4_finds l E a m0 (0 : Int32) r18 m19 hc17) rfl rfl hP hD hS rfl rfl ⟨rfl, rfl, Nat.le_of_ble_eq_true rfl, Nat.le_of_ble_eq_true rfl⟩ hl.1 (As := [.int (0 : Int32)]) (rest := []) rfl rfl (Nat.le_of_ble_eq_true rfl) ⟨Nat.zero_le _, Nat.zero_le _⟩ dX4_note_17 (fun H locs hP hD hS => ?_)
      refine W.eq (g2 := F0 m 20 ls [.int r18]) rfl ?_
      obtain ⟨rfl, rfl⟩ := so2 hf
      exact rt_i hx hb hr hlocks hP hD hS dX4_note_20
def f_X4_on (m0 : MS) (p1 : Int32) (p2 : Int32) (p3 : Int32) : Option (Int32 × MS) := bd1 (f_X4_isPerson m0 p1) (fun r2 => if (bI r2) = 0 then bd2 (f_X4_finds m0 (0 : Int32)) (fun r5 m6 => some (r5, m6)) else bd1 (f_X4_isAhead p2) (fun r8 => if (bI r8) = 0 then bd2 (f_X4_finds m0 (0 : Int32)) (fun r11 m12 => some (r11, m12)) else bd1 (f_X4_in (p3.toInt64) (0 : Int64) (1 : Int64)) (fun r14 => if (bI r14) = 0 then bd2 (f_X4_finds m0 (0 : Int32)) (fun r26 m27 => some (r26, m27)) else bd1 (f_X4_copies_d_aside m0) (fun m17 => jn1 (if p3 = 0 then ((1 : Int32)) else ((3 : Int32))) (fun x19 => bd2 (f_X4_behind m17 p2 (((35 : Int32) + ((4 : Int32) * p1)) + x19)) (fun r23 m24 => some (r23, m24)))))))
set_option maxHeartbeats 4000000 in
set_option maxRecDepth 100000 in
theorem c_X4_on (l : Launch) (E : EV) (a : Nat → Nat) (m0 : MS) (p1 : Int32) (p2 : Int32) (p3 : Int32)  (r : Int32) (m0' : MS) (hf : f_X4_on m0 p1 p2 p3 = some (r, m0')) : Ct l E yX4_on cX4_on 4 ((Option.some FieldType.int)) (rmk 7 160) [.ref (a 0), .int p1, .int p2, .int p3] (wX4 E a m0) (wX4 E a m0') (some (.int r)) := by
  refine Ct.of (by decide) (Nat.le_of_ble_eq_true rfl) ?_
  intro p e s m below meth c A ls hC hP hD hl
  obtain ⟨hx, hb, hr, hml, hown, hlocks, hE, hA⟩ := hC
  have hts : ∀ w ∈ tbl, w.before [.ref (a 0), .int p1, .int p2, .int p3].toArray s = true := fun w hw => hE.w hw
  have hS : va_S A s.heap s.heap [] := va_S.rf
  have hl : lv_has ls 4 [(0, .ref (a 0)), (1, .int p1), (2, .int p2), (3, .int p3)] := hl
  unfold f_X4_on at hf
  refine lv_aload_n hx hb dX4_on_0 rfl (lv_at hl 0 rfl) ?_
  refine lv_iload_n hx hb dX4_on_1 rfl (lv_at hl 1 rfl) ?_
  obtain ⟨r2, hc1, hf⟩ := bd1_some hf
  refine cV (X := List.take 0 (wX4 E a m0)) (Y := List.drop 12 (wX4 E a m0)) (w := (wX4 E a m0)) (w' := (wX4 E a m0)) (q0 := 0) lk_X4_50 hx hb hml hown hE hA (c_X4_isPerson l E a m0 p1 r2 hc1) rfl rfl hP hD hS rfl rfl ⟨rfl, rfl, Nat.le_of_ble_eq_true rfl, Nat.le_of_ble_eq_true rfl⟩ hl.1 (As := [.int p1]) (rest := []) rfl rfl (Nat.le_of_ble_eq_true rfl) ⟨Nat.zero_le _, Nat.zero_le _⟩ dX4_on_2 (fun H locs hP hD hS => ?_)
  refine W.eq (g2 := F0 m 5 ls [.int (bI r2)]) rfl ?_
  refine lv_if_eq (tgt := 25) hx hb dX4_on_5 (by decide) (fun c3 => ?_) (fun c3 => ?_)
  · have hf := ip c3 hf
    refine lv_aload_n hx hb dX4_on_25 rfl (lv_at hl 0 rfl) ?_
    refine lv_iconst (v := (0 : Int32)) hx hb dX4_on_26 (by decide) ?_
    obtain ⟨r5, m6, hc4, hf⟩ := bd2_some hf
    refine cV (X := List.take 0 (wX4 E a m0)) (Y := List.drop 12 (wX4 E a m0)) (w := (wX4 E a m0)) (w' := (wX4 E a m6)) (q0 := 0) lk_X4_92 hx hb hml hown hE hA (c_X4_finds l E a m0 (0 : Int32) r5 m6 hc4) rfl rfl hP hD hS rfl rfl ⟨rfl, rfl, Nat.le_of_ble_eq_true rfl, Nat.le_of_ble_eq_true rfl⟩ hl.1 (As := [.int (0 : Int32)]) (rest := []) rfl rfl (Nat.le_of_ble_eq_true rfl) ⟨Nat.zero_le _, Nat.zero_le _⟩ dX4_on_27 (fun H locs hP hD hS => ?_)
    refine W.eq (g2 := F0 m 30 ls [.int r5]) rfl ?_
    obtain ⟨rfl, rfl⟩ := so2 hf
    exact rt_i hx hb hr hlocks hP hD hS dX4_on_30
  · have hf := im c3 hf
    refine lv_iload_n hx hb dX4_on_8 rfl (lv_at hl 2 rfl) ?_
    obtain ⟨r8, hc7, hf⟩ := bd1_some hf
    refine cS (X := List.take 0 (wX4 E a m0)) (Y := List.drop 0 (wX4 E a m0)) (w := (wX4 E a m0)) (w' := (wX4 E a m0)) lk_X4_137 hx hb hml hown hE hA (c_X4_isAhead l E p2 r8 hc7) rfl rfl hP hD hS ⟨rfl, rfl, Nat.le_of_ble_eq_true rfl, Nat.le_of_ble_eq_true rfl⟩ hl.1 (As := [.int p2]) (rest := []) rfl rfl (Nat.le_of_ble_eq_true rfl) ⟨Nat.zero_le _, Nat.zero_le _⟩ dX4_on_9 (fun H locs hP hD hS => ?_)
    refine W.eq (g2 := F0 m 12 ls [.int (bI r8)]) rfl ?_
    refine lv_if_eq (tgt := 25) hx hb dX4_on_12 (by decide) (fun c9 => ?_) (fun c9 => ?_)
    · have hf := ip c9 hf
      refine lv_aload_n hx hb dX4_on_25 rfl (lv_at hl 0 rfl) ?_
      refine lv_iconst (v := (0 : Int32)) hx hb dX4_on_26 (by decide) ?_
      obtain ⟨r11, m12, hc10, hf⟩ := bd2_some hf
      refine cV (X := List.take 0 (wX4 E a m0)) (Y := List.drop 12 (wX4 E a m0)) (w := (wX4 E a m0)) (w' := (wX4 E a m12)) (q0 := 0) lk_X4_92 hx hb hml hown hE hA (c_X4_finds l E a m0 (0 : Int32) r11 m12 hc10) rfl rfl hP hD hS rfl rfl ⟨rfl, rfl, Nat.le_of_ble_eq_true rfl, Nat.le_of_ble_eq_true rfl⟩ hl.1 (As := [.int (0 : Int32)]) (rest := []) rfl rfl (Nat.le_of_ble_eq_true rfl) ⟨Nat.zero_le _, Nat.zero_le _⟩ dX4_on_27 (fun H locs hP hD hS => ?_)
      refine W.eq (g2 := F0 m 30 ls [.int r11]) rfl ?_
      obtain ⟨rfl, rfl⟩ := so2 hf
      exact rt_i hx hb hr hlocks hP hD hS dX4_on_30
    · have hf := im c9 hf
      refine lv_iload_n hx hb dX4_on_15 rfl (lv_at hl 3 rfl) ?_
      refine lv_i2l (v := (p3.toInt64)) hx hb dX4_on_16 rfl ?_
      refine lv_lconst (v := (0 : Int64)) hx hb dX4_on_17 (by decide) ?_
      refine lv_lconst (v := (1 : Int64)) hx hb dX4_on_18 (by decide) ?_
      obtain ⟨r14, hc13, hf⟩ := bd1_some hf
      refine cS (X := List.take 0 (wX4 E a m0)) (Y := List.drop 0 (wX4 E a m0)) (w := (wX4 E a m0)) (w' := (wX4 E a m0)) lk_X4_46 hx hb hml hown hE hA (c_X4_in l E (p3.toInt64) (0 : Int64) (1 : Int64) r14 hc13) rfl rfl hP hD hS ⟨rfl, rfl, Nat.le_of_ble_eq_true rfl, Nat.le_of_ble_eq_true rfl⟩ hl.1 (As := [.long (p3.toInt64), .long (0 : Int64), .long (1 : Int64)]) (rest := []) rfl rfl (Nat.le_of_ble_eq_true rfl) ⟨Nat.zero_le _, Nat.zero_le _⟩ dX4_on_19 (fun H locs hP hD hS => ?_)
      refine W.eq (g2 := F0 m 22 ls [.int (bI r14)]) rfl ?_
      refine lv_if_ne (tgt := 31) hx hb dX4_on_22 (by decide) (fun c15 => ?_) (fun c15 => ?_)
      · have hf := im c15 hf
        refine lv_aload_n hx hb dX4_on_31 rfl (lv_at hl 0 rfl) ?_
        refine va_get (D := E.1) (ci := 4) (v := .ref (a 1)) (C := RX4) (T := TX4) (N := 18) hx hb hts inX4 hown hE.2.1 hP 0 rfl rfl 0 (by decide) (hE.w tw_598) (fun _ h9 => h9) rfl dX4_on_32 ?_
        refine lv_aload_n hx hb dX4_on_35 rfl (lv_at hl 0 rfl) ?_
        refine va_get (D := E.1) (ci := 4) (v := .ref (a 3)) (C := RX4) (T := TX4) (N := 18) hx hb hts inX4 hown hE.2.1 hP 0 rfl rfl 2 (by decide) (hE.w tw_600) (fun _ h9 => h9) rfl dX4_on_36 ?_
        obtain ⟨m17, hc16, hf⟩ := bd1_some hf
        refine cS (X := List.take 0 (wX4 E a m0)) (Y := List.drop 12 (wX4 E a m0)) (w := (wX4 E a m0)) (w' := (wX4 E a m17)) lk_X4_129 hx hb hml hown hE hA (c_X4_copies_d_aside l E a m0 m17 hc16) rfl rfl hP hD hS ⟨rfl, rfl, Nat.le_of_ble_eq_true rfl, Nat.le_of_ble_eq_true rfl⟩ hl.1 (As := [.ref (a 1), .ref (a 3)]) (rest := []) rfl rfl (Nat.le_of_ble_eq_true rfl) ⟨Nat.zero_le _, Nat.zero_le _⟩ dX4_on_39 (fun H locs hP hD hS => ?_)
        refine W.eq (g2 := F0 m 42 ls []) rfl ?_
        refine lv_aload_n hx hb dX4_on_42 rfl (lv_at hl 0 rfl) ?_
        refine lv_iload_n hx hb dX4_on_43 rfl (lv_at hl 2 rfl) ?_
        refine lv_bipush (v := (35 : Int32)) hx hb dX4_on_44 (by decide) ?_
        refine lv_iconst (v := (4 : Int32)) hx hb dX4_on_46 (by decide) ?_
        refine lv_iload_n hx hb dX4_on_47 rfl (lv_at hl 1 rfl) ?_
        refine lv_imul hx hb dX4_on_48 ?_
        refine lv_iadd hx hb dX4_on_49 ?_
        refine lv_iload_n hx hb dX4_on_50 rfl (lv_at hl 3 rfl) ?_
        obtain ⟨x19, hq21, hf⟩ := jn1_some hf
        have J20 : ∀ (H : Heap) (locs : List Loc) (ls : Array Slot), va_P E.1 vwCl (wX4 E a m17) H → va_D A (wX4 E a m17) → va_S A s.heap H locs → lv_has ls 4 [(0, .ref (a 0)), (1, .int p1), (2, .int p2), (3, .int p3)] → W p l e (rmk 7 160) s m [.ref (a 0), .int p1, .int p2, .int p3].toArray below meth c H locs 0 0 (MQ below (Qct E A (wX4 E a m0') (some (.int r))) [.ref (a 0), .int p1, .int p2, .int p3].toArray s 0 0 A) (F0 m 59 ls [.int x19, .int ((35 : Int32) + ((4 : Int32) * p1)), .int p2, .ref (a 0)]) := by
          intro H locs ls hP hD hS hl
          refine lv_iadd hx hb dX4_on_59 ?_
          obtain ⟨r23, m24, hc22, hf⟩ := bd2_some hf
          refine cV (X := List.take 0 (wX4 E a m17)) (Y := List.drop 12 (wX4 E a m17)) (w := (wX4 E a m17)) (w' := (wX4 E a m24)) (q0 := 0) lk_X4_143 hx hb hml hown hE hA (c_X4_behind l E a m17 p2 (((35 : Int32) + ((4 : Int32) * p1)) + x19) r23 m24 hc22) rfl rfl hP hD hS rfl rfl ⟨rfl, rfl, Nat.le_of_ble_eq_true rfl, Nat.le_of_ble_eq_true rfl⟩ hl.1 (As := [.int p2, .int (((35 : Int32) + ((4 : Int32) * p1)) + x19)]) (rest := []) rfl rfl (Nat.le_of_ble_eq_true rfl) ⟨Nat.zero_le _, Nat.zero_le _⟩ dX4_on_60 (fun H locs hP hD hS => ?_)
          refine W.eq (g2 := F0 m 63 ls [.int r23]) rfl ?_
          obtain ⟨rfl, rfl⟩ := so2 hf
          exact rt_i hx hb hr hlocks hP hD hS dX4_on_63
        refine lv_if_ne (tgt := 58) hx hb dX4_on_51 (by decide) (fun c18 => ?_) (fun c18 => ?_)
        · have hq21 := ien c18 hq21
          refine lv_iconst (v := (3 : Int32)) hx hb dX4_on_58 (by decide) ?_
          obtain rfl := pj1 hq21
          exact J20 _ _ _ hP hD hS (lv_sub hl [0, 1, 2, 3] rfl)
        · have hq21 := ie c18 hq21
          refine lv_iconst (v := (1 : Int32)) hx hb dX4_on_54 (by decide) ?_
          refine lv_goto (tgt := 59) hx hb dX4_on_55 (by decide) ?_
          obtain rfl := pj1 hq21
          exact J20 _ _ _ hP hD hS (lv_sub hl [0, 1, 2, 3] rfl)
      · have hf := ip c15 hf
        refine lv_aload_n hx hb dX4_on_25 rfl (lv_at hl 0 rfl) ?_
        refine lv_iconst (v := (0 : Int32)) hx hb dX4_on_26 (by decide) ?_
        obtain ⟨r26, m27, hc25, hf⟩ := bd2_some hf
        refine cV (X := List.take 0 (wX4 E a m0)) (Y := List.drop 12 (wX4 E a m0)) (w := (wX4 E a m0)) (w' := (wX4 E a m27)) (q0 := 0) lk_X4_92 hx hb hml hown hE hA (c_X4_finds l E a m0 (0 : Int32) r26 m27 hc25) rfl rfl hP hD hS rfl rfl ⟨rfl, rfl, Nat.le_of_ble_eq_true rfl, Nat.le_of_ble_eq_true rfl⟩ hl.1 (As := [.int (0 : Int32)]) (rest := []) rfl rfl (Nat.le_of_ble_eq_true rfl) ⟨Nat.zero_le _, Nat.zero_le _⟩ dX4_on_27 (fun H locs hP hD hS => ?_)
        refine W.eq (g2 := F0 m 30 ls [.int r26]) rfl ?_
        obtain ⟨rfl, rfl⟩ := so2 hf
        exact rt_i hx hb hr hlocks hP hD hS dX4_on_30
def f_X4_house (m0 : MS) (p1 : Int32) : Option (Int32 × MS) := bd1 (f_X4_isAhead p1) (fun r2 => if (bI r2) = 0 then bd2 (f_X4_finds m0 (0 : Int32)) (fun r10 m11 => some (r10, m11)) else bd1 (f_X4_copies_d_aside m0) (fun m5 => bd2 (f_X4_houseBehind m5 p1) (fun r7 m8 => some (r7, m8))))
set_option maxHeartbeats 4000000 in
set_option maxRecDepth 100000 in
theorem c_X4_house (l : Launch) (E : EV) (a : Nat → Nat) (m0 : MS) (p1 : Int32)  (r : Int32) (m0' : MS) (hf : f_X4_house m0 p1 = some (r, m0')) : Ct l E yX4_house cX4_house 2 ((Option.some FieldType.int)) (rmk 7 159) [.ref (a 0), .int p1] (wX4 E a m0) (wX4 E a m0') (some (.int r)) := by
  refine Ct.of (by decide) (Nat.le_of_ble_eq_true rfl) ?_
  intro p e s m below meth c A ls hC hP hD hl
  obtain ⟨hx, hb, hr, hml, hown, hlocks, hE, hA⟩ := hC
  have hts : ∀ w ∈ tbl, w.before [.ref (a 0), .int p1].toArray s = true := fun w hw => hE.w hw
  have hS : va_S A s.heap s.heap [] := va_S.rf
  have hl : lv_has ls 2 [(0, .ref (a 0)), (1, .int p1)] := hl
  unfold f_X4_house at hf
  refine lv_iload_n hx hb dX4_house_0 rfl (lv_at hl 1 rfl) ?_
  obtain ⟨r2, hc1, hf⟩ := bd1_some hf
  refine cS (X := List.take 0 (wX4 E a m0)) (Y := List.drop 0 (wX4 E a m0)) (w := (wX4 E a m0)) (w' := (wX4 E a m0)) lk_X4_137 hx hb hml hown hE hA (c_X4_isAhead l E p1 r2 hc1) rfl rfl hP hD hS ⟨rfl, rfl, Nat.le_of_ble_eq_true rfl, Nat.le_of_ble_eq_true rfl⟩ hl.1 (As := [.int p1]) (rest := []) rfl rfl (Nat.le_of_ble_eq_true rfl) ⟨Nat.zero_le _, Nat.zero_le _⟩ dX4_house_1 (fun H locs hP hD hS => ?_)
  refine W.eq (g2 := F0 m 4 ls [.int (bI r2)]) rfl ?_
  refine lv_if_ne (tgt := 13) hx hb dX4_house_4 (by decide) (fun c3 => ?_) (fun c3 => ?_)
  · have hf := im c3 hf
    refine lv_aload_n hx hb dX4_house_13 rfl (lv_at hl 0 rfl) ?_
    refine va_get (D := E.1) (ci := 4) (v := .ref (a 1)) (C := RX4) (T := TX4) (N := 18) hx hb hts inX4 hown hE.2.1 hP 0 rfl rfl 0 (by decide) (hE.w tw_598) (fun _ h9 => h9) rfl dX4_house_14 ?_
    refine lv_aload_n hx hb dX4_house_17 rfl (lv_at hl 0 rfl) ?_
    refine va_get (D := E.1) (ci := 4) (v := .ref (a 3)) (C := RX4) (T := TX4) (N := 18) hx hb hts inX4 hown hE.2.1 hP 0 rfl rfl 2 (by decide) (hE.w tw_600) (fun _ h9 => h9) rfl dX4_house_18 ?_
    obtain ⟨m5, hc4, hf⟩ := bd1_some hf
    refine cS (X := List.take 0 (wX4 E a m0)) (Y := List.drop 12 (wX4 E a m0)) (w := (wX4 E a m0)) (w' := (wX4 E a m5)) lk_X4_129 hx hb hml hown hE hA (c_X4_copies_d_aside l E a m0 m5 hc4) rfl rfl hP hD hS ⟨rfl, rfl, Nat.le_of_ble_eq_true rfl, Nat.le_of_ble_eq_true rfl⟩ hl.1 (As := [.ref (a 1), .ref (a 3)]) (rest := []) rfl rfl (Nat.le_of_ble_eq_true rfl) ⟨Nat.zero_le _, Nat.zero_le _⟩ dX4_house_21 (fun H locs hP hD hS => ?_)
    refine W.eq (g2 := F0 m 24 ls []) rfl ?_
    refine lv_aload_n hx hb dX4_house_24 rfl (lv_at hl 0 rfl) ?_
    refine lv_iload_n hx hb dX4_house_25 rfl (lv_at hl 1 rfl) ?_
    obtain ⟨r7, m8, hc6, hf⟩ := bd2_some hf
    refine cV (X := List.take 0 (wX4 E a m5)) (Y := List.drop 12 (wX4 E a m5)) (w := (wX4 E a m5)) (w' := (wX4 E a m8)) (q0 := 0) lk_X4_146 hx hb hml hown hE hA (c_X4_houseBehind l E a m5 p1 r7 m8 hc6) rfl rfl hP hD hS rfl rfl ⟨rfl, rfl, Nat.le_of_ble_eq_true rfl, Nat.le_of_ble_eq_true rfl⟩ hl.1 (As := [.int p1]) (rest := []) rfl rfl (Nat.le_of_ble_eq_true rfl) ⟨Nat.zero_le _, Nat.zero_le _⟩ dX4_house_26 (fun H locs hP hD hS => ?_)
    refine W.eq (g2 := F0 m 29 ls [.int r7]) rfl ?_
    obtain ⟨rfl, rfl⟩ := so2 hf
    exact rt_i hx hb hr hlocks hP hD hS dX4_house_29
  · have hf := ip c3 hf
    refine lv_aload_n hx hb dX4_house_7 rfl (lv_at hl 0 rfl) ?_
    refine lv_iconst (v := (0 : Int32)) hx hb dX4_house_8 (by decide) ?_
    obtain ⟨r10, m11, hc9, hf⟩ := bd2_some hf
    refine cV (X := List.take 0 (wX4 E a m0)) (Y := List.drop 12 (wX4 E a m0)) (w := (wX4 E a m0)) (w' := (wX4 E a m11)) (q0 := 0) lk_X4_92 hx hb hml hown hE hA (c_X4_finds l E a m0 (0 : Int32) r10 m11 hc9) rfl rfl hP hD hS rfl rfl ⟨rfl, rfl, Nat.le_of_ble_eq_true rfl, Nat.le_of_ble_eq_true rfl⟩ hl.1 (As := [.int (0 : Int32)]) (rest := []) rfl rfl (Nat.le_of_ble_eq_true rfl) ⟨Nat.zero_le _, Nat.zero_le _⟩ dX4_house_9 (fun H locs hP hD hS => ?_)
    refine W.eq (g2 := F0 m 12 ls [.int r10]) rfl ?_
    obtain ⟨rfl, rfl⟩ := so2 hf
    exact rt_i hx hb hr hlocks hP hD hS dX4_house_12
def f_X4_heard (m0 : MS) (p1 : Int32) (p2 : Int32) : Option (Int32 × MS) := bd1 (f_X4_in (p1.toInt64) (1 : Int64) (400 : Int64)) (fun r2 => if (bI r2) = 0 then bd2 (f_X4_finds m0 (0 : Int32)) (fun r5 m6 => some (r5, m6)) else bd1 (f_X4_isDone p2) (fun r8 => if (bI r8) = 0 then bd2 (f_X4_finds m0 (0 : Int32)) (fun r19 m20 => some (r19, m20)) else bd1 (f_X4_copies_d_aside m0) (fun m11 => bd1 (f_X4_momentsGo m11 (p1 - (1 : Int32))) (fun m13 => bd1 (f_X4_doers m13 p2 (0 : Int32)) (fun r15 => bd1 (f_X4_copies_aside_d m13) (fun m17 => some (r15, m17)))))))
set_option maxHeartbeats 4000000 in
set_option maxRecDepth 100000 in
theorem c_X4_heard (l : Launch) (E : EV) (a : Nat → Nat) (m0 : MS) (p1 : Int32) (p2 : Int32)  (r : Int32) (m0' : MS) (hf : f_X4_heard m0 p1 p2 = some (r, m0')) : Ct l E yX4_heard cX4_heard 4 ((Option.some FieldType.int)) (rmk 6 137) [.ref (a 0), .int p1, .int p2] (wX4 E a m0) (wX4 E a m0') (some (.int r)) := by
  refine Ct.of (by decide) (Nat.le_of_ble_eq_true rfl) ?_
  intro p e s m below meth c A ls hC hP hD hl
  obtain ⟨hx, hb, hr, hml, hown, hlocks, hE, hA⟩ := hC
  have hts : ∀ w ∈ tbl, w.before [.ref (a 0), .int p1, .int p2].toArray s = true := fun w hw => hE.w hw
  have hS : va_S A s.heap s.heap [] := va_S.rf
  have hl : lv_has ls 4 [(0, .ref (a 0)), (1, .int p1), (2, .int p2)] := hl
  unfold f_X4_heard at hf
  refine lv_iload_n hx hb dX4_heard_0 rfl (lv_at hl 1 rfl) ?_
  refine lv_i2l (v := (p1.toInt64)) hx hb dX4_heard_1 rfl ?_
  refine lv_lconst (v := (1 : Int64)) hx hb dX4_heard_2 (by decide) ?_
  refine lv_ldc2 (v := (400 : Int64)) hx hb hown (hE.w tw_781) dX4_heard_3 ?_
  obtain ⟨r2, hc1, hf⟩ := bd1_some hf
  refine cS (X := List.take 0 (wX4 E a m0)) (Y := List.drop 0 (wX4 E a m0)) (w := (wX4 E a m0)) (w' := (wX4 E a m0)) lk_X4_46 hx hb hml hown hE hA (c_X4_in l E (p1.toInt64) (1 : Int64) (400 : Int64) r2 hc1) rfl rfl hP hD hS ⟨rfl, rfl, Nat.le_of_ble_eq_true rfl, Nat.le_of_ble_eq_true rfl⟩ hl.1 (As := [.long (p1.toInt64), .long (1 : Int64), .long (400 : Int64)]) (rest := []) rfl rfl (Nat.le_of_ble_eq_true rfl) ⟨Nat.zero_le _, Nat.zero_le _⟩ dX4_heard_6 (fun H locs hP hD hS => ?_)
  refine W.eq (g2 := F0 m 9 ls [.int (bI r2)]) rfl ?_
  refine lv_if_eq (tgt := 19) hx hb dX4_heard_9 (by decide) (fun c3 => ?_) (fun c3 => ?_)
  · have hf := ip c3 hf
    refine lv_aload_n hx hb dX4_heard_19 rfl (lv_at hl 0 rfl) ?_
    refine lv_iconst (v := (0 : Int32)) hx hb dX4_heard_20 (by decide) ?_
    obtain ⟨r5, m6, hc4, hf⟩ := bd2_some hf
    refine cV (X := List.take 0 (wX4 E a m0)) (Y := List.drop 12 (wX4 E a m0)) (w := (wX4 E a m0)) (w' := (wX4 E a m6)) (q0 := 0) lk_X4_92 hx hb hml hown hE hA (c_X4_finds l E a m0 (0 : Int32) r5 m6 hc4) rfl rfl hP hD hS rfl rfl ⟨rfl, rfl, Nat.le_of_ble_eq_true rfl, Nat.le_of_ble_eq_true rfl⟩ hl.1 (As := [.int (0 : Int32)]) (rest := []) rfl rfl (Nat.le_of_ble_eq_true rfl) ⟨Nat.zero_le _, Nat.zero_le _⟩ dX4_heard_21 (fun H locs hP hD hS => ?_)
    refine W.eq (g2 := F0 m 24 ls [.int r5]) rfl ?_
    obtain ⟨rfl, rfl⟩ := so2 hf
    exact rt_i hx hb hr hlocks hP hD hS dX4_heard_24
  · have hf := im c3 hf
    refine lv_iload_n hx hb dX4_heard_12 rfl (lv_at hl 2 rfl) ?_
    obtain ⟨r8, hc7, hf⟩ := bd1_some hf
    refine cS (X := List.take 0 (wX4 E a m0)) (Y := List.drop 0 (wX4 E a m0)) (w := (wX4 E a m0)) (w' := (wX4 E a m0)) lk_X4_110 hx hb hml hown hE hA (c_X4_isDone l E p2 r8 hc7) rfl rfl hP hD hS ⟨rfl, rfl, Nat.le_of_ble_eq_true rfl, Nat.le_of_ble_eq_true rfl⟩ hl.1 (As := [.int p2]) (rest := []) rfl rfl (Nat.le_of_ble_eq_true rfl) ⟨Nat.zero_le _, Nat.zero_le _⟩ dX4_heard_13 (fun H locs hP hD hS => ?_)
    refine W.eq (g2 := F0 m 16 ls [.int (bI r8)]) rfl ?_
    refine lv_if_ne (tgt := 25) hx hb dX4_heard_16 (by decide) (fun c9 => ?_) (fun c9 => ?_)
    · have hf := im c9 hf
      refine lv_aload_n hx hb dX4_heard_25 rfl (lv_at hl 0 rfl) ?_
      refine va_get (D := E.1) (ci := 4) (v := .ref (a 1)) (C := RX4) (T := TX4) (N := 18) hx hb hts inX4 hown hE.2.1 hP 0 rfl rfl 0 (by decide) (hE.w tw_598) (fun _ h9 => h9) rfl dX4_heard_26 ?_
      refine lv_aload_n hx hb dX4_heard_29 rfl (lv_at hl 0 rfl) ?_
      refine va_get (D := E.1) (ci := 4) (v := .ref (a 3)) (C := RX4) (T := TX4) (N := 18) hx hb hts inX4 hown hE.2.1 hP 0 rfl rfl 2 (by decide) (hE.w tw_600) (fun _ h9 => h9) rfl dX4_heard_30 ?_
      obtain ⟨m11, hc10, hf⟩ := bd1_some hf
      refine cS (X := List.take 0 (wX4 E a m0)) (Y := List.drop 12 (wX4 E a m0)) (w := (wX4 E a m0)) (w' := (wX4 E a m11)) lk_X4_129 hx hb hml hown hE hA (c_X4_copies_d_aside l E a m0 m11 hc10) rfl rfl hP hD hS ⟨rfl, rfl, Nat.le_of_ble_eq_true rfl, Nat.le_of_ble_eq_true rfl⟩ hl.1 (As := [.ref (a 1), .ref (a 3)]) (rest := []) rfl rfl (Nat.le_of_ble_eq_true rfl) ⟨Nat.zero_le _, Nat.zero_le _⟩ dX4_heard_33 (fun H locs hP hD hS => ?_)
      refine W.eq (g2 := F0 m 36 ls []) rfl ?_
      refine lv_aload_n hx hb dX4_heard_36 rfl (lv_at hl 0 rfl) ?_
      refine lv_iload_n hx hb dX4_heard_37 rfl (lv_at hl 1 rfl) ?_
      refine lv_iconst (v := (1 : Int32)) hx hb dX4_heard_38 (by decide) ?_
      refine lv_isub hx hb dX4_heard_39 ?_
      obtain ⟨m13, hc12, hf⟩ := bd1_some hf
      refine cV (X := List.take 0 (wX4 E a m11)) (Y := List.drop 12 (wX4 E a m11)) (w := (wX4 E a m11)) (w' := (wX4 E a m13)) (q0 := 0) lk_X4_125 hx hb hml hown hE hA (c_X4_momentsGo l E a m11 (p1 - (1 : Int32)) m13 hc12) rfl rfl hP hD hS rfl rfl ⟨rfl, rfl, Nat.le_of_ble_eq_true rfl, Nat.le_of_ble_eq_true rfl⟩ hl.1 (As := [.int (p1 - (1 : Int32))]) (rest := []) rfl rfl (Nat.le_of_ble_eq_true rfl) ⟨Nat.zero_le _, Nat.zero_le _⟩ dX4_heard_40 (fun H locs hP hD hS => ?_)
      refine W.eq (g2 := F0 m 43 ls []) rfl ?_
      refine lv_aload_n hx hb dX4_heard_43 rfl (lv_at hl 0 rfl) ?_
      refine lv_iload_n hx hb dX4_heard_44 rfl (lv_at hl 2 rfl) ?_
      refine lv_iconst (v := (0 : Int32)) hx hb dX4_heard_45 (by decide) ?_
      obtain ⟨r15, hc14, hf⟩ := bd1_some hf
      refine cV (X := List.take 0 (wX4 E a m13)) (Y := List.drop 12 (wX4 E a m13)) (w := (wX4 E a m13)) (w' := (wX4 E a m13)) (q0 := 0) lk_X4_101 hx hb hml hown hE hA (c_X4_doers l E a m13 p2 (0 : Int32) r15 hc14) rfl rfl hP hD hS rfl rfl ⟨rfl, rfl, Nat.le_of_ble_eq_true rfl, Nat.le_of_ble_eq_true rfl⟩ hl.1 (As := [.int p2, .int (0 : Int32)]) (rest := []) rfl rfl (Nat.le_of_ble_eq_true rfl) ⟨Nat.zero_le _, Nat.zero_le _⟩ dX4_heard_46 (fun H locs hP hD hS => ?_)
      refine W.eq (g2 := F0 m 49 ls [.int r15]) rfl ?_
      refine lv_istore_n (lv' := [(3, .int r15), (0, .ref (a 0)), (1, .int p1), (2, .int p2)]) hx hb dX4_heard_49 rfl hl (by decide) rfl (fun ls hl => ?_)
      refine lv_aload_n hx hb dX4_heard_50 rfl (lv_at hl 1 rfl) ?_
      refine va_get (D := E.1) (ci := 4) (v := .ref (a 3)) (C := RX4) (T := TX4) (N := 18) hx hb hts inX4 hown hE.2.1 hP 0 rfl rfl 2 (by decide) (hE.w tw_600) (fun _ h9 => h9) rfl dX4_heard_51 ?_
      refine lv_aload_n hx hb dX4_heard_54 rfl (lv_at hl 1 rfl) ?_
      refine va_get (D := E.1) (ci := 4) (v := .ref (a 1)) (C := RX4) (T := TX4) (N := 18) hx hb hts inX4 hown hE.2.1 hP 0 rfl rfl 0 (by decide) (hE.w tw_598) (fun _ h9 => h9) rfl dX4_heard_55 ?_
      obtain ⟨m17, hc16, hf⟩ := bd1_some hf
      refine cS (X := List.take 0 (wX4 E a m13)) (Y := List.drop 12 (wX4 E a m13)) (w := (wX4 E a m13)) (w' := (wX4 E a m17)) lk_X4_129 hx hb hml hown hE hA (c_X4_copies_aside_d l E a m13 m17 hc16) rfl rfl hP hD hS ⟨rfl, rfl, Nat.le_of_ble_eq_true rfl, Nat.le_of_ble_eq_true rfl⟩ hl.1 (As := [.ref (a 3), .ref (a 1)]) (rest := []) rfl rfl (Nat.le_of_ble_eq_true rfl) ⟨Nat.zero_le _, Nat.zero_le _⟩ dX4_heard_58 (fun H locs hP hD hS => ?_)
      refine W.eq (g2 := F0 m 61 ls []) rfl ?_
      refine lv_iload_n hx hb dX4_heard_61 rfl (lv_at hl 0 rfl) ?_
      obtain ⟨rfl, rfl⟩ := so2 hf
      exact rt_i hx hb hr hlocks hP hD hS dX4_heard_62
    · have hf := ip c9 hf
      refine lv_aload_n hx hb dX4_heard_19 rfl (lv_at hl 0 rfl) ?_
      refine lv_iconst (v := (0 : Int32)) hx hb dX4_heard_20 (by decide) ?_
      obtain ⟨r19, m20, hc18, hf⟩ := bd2_some hf
      refine cV (X := List.take 0 (wX4 E a m0)) (Y := List.drop 12 (wX4 E a m0)) (w := (wX4 E a m0)) (w' := (wX4 E a m20)) (q0 := 0) lk_X4_92 hx hb hml hown hE hA (c_X4_finds l E a m0 (0 : Int32) r19 m20 hc18) rfl rfl hP hD hS rfl rfl ⟨rfl, rfl, Nat.le_of_ble_eq_true rfl, Nat.le_of_ble_eq_true rfl⟩ hl.1 (As := [.int (0 : Int32)]) (rest := []) rfl rfl (Nat.le_of_ble_eq_true rfl) ⟨Nat.zero_le _, Nat.zero_le _⟩ dX4_heard_21 (fun H locs hP hD hS => ?_)
      refine W.eq (g2 := F0 m 24 ls [.int r19]) rfl ?_
      obtain ⟨rfl, rfl⟩ := so2 hf
      exact rt_i hx hb hr hlocks hP hD hS dX4_heard_24
def lp_X4_does_34 (p1 : Int32) (p2 : Int32) : Nat → (Int32) → (MS) → Option (Int32 × MS)
  | 0, _, _ => none
  | k_12 + 1, v3_12, m0_12 => if (400 : Int32) ≤ v3_12 then bd1 (f_X4_doesNow m0_12 p1) (fun r15 => jn1 (if r15 = p2 then ((1 : Int32)) else ((0 : Int32))) (fun x17 => bd1 (f_X4_copies_aside_d m0_12) (fun m21 => if x17 = 0 then bd2 (f_X4_finds m21 (3 : Int32)) (fun r24 m25 => some (r24, m25)) else some (v3_12, m21)))) else bd1 (f_X4_doesNow m0_12 p1) (fun r27 => if r27 = p2 then bd1 (f_X4_doesNow m0_12 p1) (fun r30 => jn1 (if r30 = p2 then ((1 : Int32)) else ((0 : Int32))) (fun x32 => bd1 (f_X4_copies_aside_d m0_12) (fun m36 => if x32 = 0 then bd2 (f_X4_finds m36 (3 : Int32)) (fun r39 m40 => some (r39, m40)) else some (v3_12, m36)))) else bd1 (f_X4_momentGoes m0_12) (fun m42 => lp_X4_does_34 p1 p2 k_12 (v3_12 + (1 : Int32)) m42))
def f_X4_does (m0 : MS) (p1 : Int32) (p2 : Int32) : Option (Int32 × MS) := bd1 (f_X4_isPerson m0 p1) (fun r2 => if (bI r2) = 0 then bd2 (f_X4_finds m0 (0 : Int32)) (fun r5 m6 => some (r5, m6)) else bd1 (f_X4_isDone p2) (fun r8 => if (bI r8) = 0 then bd2 (f_X4_finds m0 (0 : Int32)) (fun r44 m45 => some (r44, m45)) else bd1 (f_X4_copies_d_aside m0) (fun m11 => lp_X4_does_34 p1 p2 FU (1 : Int32) m11)))
set_option maxHeartbeats 4000000 in
set_option maxRecDepth 100000 in
theorem c_X4_does (l : Launch) (E : EV) (a : Nat → Nat) (m0 : MS) (p1 : Int32) (p2 : Int32)  (r : Int32) (m0' : MS) (hf : f_X4_does m0 p1 p2 = some (r, m0')) : Ct l E yX4_does cX4_does 5 ((Option.some FieldType.int)) (rmk 5 115) [.ref (a 0), .int p1, .int p2] (wX4 E a m0) (wX4 E a m0') (some (.int r)) := by
  refine Ct.of (by decide) (Nat.le_of_ble_eq_true rfl) ?_
  intro p e s m below meth c A ls hC hP hD hl
  obtain ⟨hx, hb, hr, hml, hown, hlocks, hE, hA⟩ := hC
  have hts : ∀ w ∈ tbl, w.before [.ref (a 0), .int p1, .int p2].toArray s = true := fun w hw => hE.w hw
  have hS : va_S A s.heap s.heap [] := va_S.rf
  have hl : lv_has ls 5 [(0, .ref (a 0)), (1, .int p1), (2, .int p2)] := hl
  unfold f_X4_does at hf
  refine lv_aload_n hx hb dX4_does_0 rfl (lv_at hl 0 rfl) ?_
  refine lv_iload_n hx hb dX4_does_1 rfl (lv_at hl 1 rfl) ?_
  obtain ⟨r2, hc1, hf⟩ := bd1_some hf
  refine cV (X := List.take 0 (wX4 E a m0)) (Y := List.drop 12 (wX4 E a m0)) (w := (wX4 E a m0)) (w' := (wX4 E a m0)) (q0 := 0) lk_X4_50 hx hb hml hown hE hA (c_X4_isPerson l E a m0 p1 r2 hc1) rfl rfl hP hD hS rfl rfl ⟨rfl, rfl, Nat.le_of_ble_eq_true rfl, Nat.le_of_ble_eq_true rfl⟩ hl.1 (As := [.int p1]) (rest := []) rfl rfl (Nat.le_of_ble_eq_true rfl) ⟨Nat.zero_le _, Nat.zero_le _⟩ dX4_does_2 (fun H locs hP hD hS => ?_)
  refine W.eq (g2 := F0 m 5 ls [.int (bI r2)]) rfl ?_
  refine lv_if_eq (tgt := 15) hx hb dX4_does_5 (by decide) (fun c3 => ?_) (fun c3 => ?_)
  · have hf := ip c3 hf
    refine lv_aload_n hx hb dX4_does_15 rfl (lv_at hl 0 rfl) ?_
    refine lv_iconst (v := (0 : Int32)) hx hb dX4_does_16 (by decide) ?_
    obtain ⟨r5, m6, hc4, hf⟩ := bd2_some hf
    refine cV (X := List.take 0 (wX4 E a m0)) (Y := List.drop 12 (wX4 E a m0)) (w := (wX4 E a m0)) (w' := (wX4 E a m6)) (q0 := 0) lk_X4_92 hx hb hml hown hE hA (c_X4_finds l E a m0 (0 : Int32) r5 m6 hc4) rfl rfl hP hD hS rfl rfl ⟨rfl, rfl, Nat.le_of_ble_eq_true rfl, Nat.le_of_ble_eq_true rfl⟩ hl.1 (As := [.int (0 : Int32)]) (rest := []) rfl rfl (Nat.le_of_ble_eq_true rfl) ⟨Nat.zero_le _, Nat.zero_le _⟩ dX4_does_17 (fun H locs hP hD hS => ?_)
    refine W.eq (g2 := F0 m 20 ls [.int r5]) rfl ?_
    obtain ⟨rfl, rfl⟩ := so2 hf
    exact rt_i hx hb hr hlocks hP hD hS dX4_does_20
  · have hf := im c3 hf
    refine lv_iload_n hx hb dX4_does_8 rfl (lv_at hl 2 rfl) ?_
    obtain ⟨r8, hc7, hf⟩ := bd1_some hf
    refine cS (X := List.take 0 (wX4 E a m0)) (Y := List.drop 0 (wX4 E a m0)) (w := (wX4 E a m0)) (w' := (wX4 E a m0)) lk_X4_110 hx hb hml hown hE hA (c_X4_isDone l E p2 r8 hc7) rfl rfl hP hD hS ⟨rfl, rfl, Nat.le_of_ble_eq_true rfl, Nat.le_of_ble_eq_true rfl⟩ hl.1 (As := [.int p2]) (rest := []) rfl rfl (Nat.le_of_ble_eq_true rfl) ⟨Nat.zero_le _, Nat.zero_le _⟩ dX4_does_9 (fun H locs hP hD hS => ?_)
    refine W.eq (g2 := F0 m 12 ls [.int (bI r8)]) rfl ?_
    refine lv_if_ne (tgt := 21) hx hb dX4_does_12 (by decide) (fun c9 => ?_) (fun c9 => ?_)
    · have hf := im c9 hf
      refine lv_aload_n hx hb dX4_does_21 rfl (lv_at hl 0 rfl) ?_
      refine va_get (D := E.1) (ci := 4) (v := .ref (a 1)) (C := RX4) (T := TX4) (N := 18) hx hb hts inX4 hown hE.2.1 hP 0 rfl rfl 0 (by decide) (hE.w tw_598) (fun _ h9 => h9) rfl dX4_does_22 ?_
      refine lv_aload_n hx hb dX4_does_25 rfl (lv_at hl 0 rfl) ?_
      refine va_get (D := E.1) (ci := 4) (v := .ref (a 3)) (C := RX4) (T := TX4) (N := 18) hx hb hts inX4 hown hE.2.1 hP 0 rfl rfl 2 (by decide) (hE.w tw_600) (fun _ h9 => h9) rfl dX4_does_26 ?_
      obtain ⟨m11, hc10, hf⟩ := bd1_some hf
      refine cS (X := List.take 0 (wX4 E a m0)) (Y := List.drop 12 (wX4 E a m0)) (w := (wX4 E a m0)) (w' := (wX4 E a m11)) lk_X4_129 hx hb hml hown hE hA (c_X4_copies_d_aside l E a m0 m11 hc10) rfl rfl hP hD hS ⟨rfl, rfl, Nat.le_of_ble_eq_true rfl, Nat.le_of_ble_eq_true rfl⟩ hl.1 (As := [.ref (a 1), .ref (a 3)]) (rest := []) rfl rfl (Nat.le_of_ble_eq_true rfl) ⟨Nat.zero_le _, Nat.zero_le _⟩ dX4_does_29 (fun H locs hP hD hS => ?_)
      refine W.eq (g2 := F0 m 32 ls []) rfl ?_
      refine lv_iconst (v := (1 : Int32)) hx hb dX4_does_32 (by decide) ?_
      refine lv_istore_n (lv' := [(3, .int (1 : Int32)), (0, .ref (a 0)), (1, .int p1), (2, .int p2)]) hx hb dX4_does_33 rfl hl (by decide) rfl (fun ls hl => ?_)
      have L_12 : ∀ (k_12 : Nat) (v3_12 : Int32) (m0_12 : MS), lp_X4_does_34 p1 p2 k_12 v3_12 m0_12 = some (r, m0') → ∀ (H : Heap) (locs : List Loc) (ls : Array Slot), va_P E.1 vwCl (wX4 E a m0_12) H → va_D A (wX4 E a m0_12) → va_S A s.heap H locs → lv_has ls 5 [(3, .int v3_12), (0, .ref (a 0)), (1, .int p1), (2, .int p2)] → W p l e (rmk 5 115) s m [.ref (a 0), .int p1, .int p2].toArray below meth c H locs 0 0 (MQ below (Qct E A (wX4 E a m0') (some (.int r))) [.ref (a 0), .int p1, .int p2].toArray s 0 0 A) (F0 m 34 ls []) := by
        intro k_12
        induction k_12 with
        | zero =>
          intro v3_12 m0_12 hf
          rw [lp_X4_does_34] at hf
          cases hf
        | succ k_12 ih_12 =>
          intro v3_12 m0_12 hf H locs ls hP hD hS hl
          rw [lp_X4_does_34] at hf
          refine lv_iload_n hx hb dX4_does_34 rfl (lv_at hl 0 rfl) ?_
          refine lv_sipush (v := (400 : Int32)) hx hb dX4_does_35 (by decide) ?_
          refine lv_icmp_ge (tgt := 60) hx hb dX4_does_38 (by decide) (fun c13 => ?_) (fun c13 => ?_)
          · have hf := ip c13 hf
            refine lv_aload_n hx hb dX4_does_60 rfl (lv_at hl 1 rfl) ?_
            refine lv_iload_n hx hb dX4_does_61 rfl (lv_at hl 2 rfl) ?_
            obtain ⟨r15, hc14, hf⟩ := bd1_some hf
            refine cV (X := List.take 0 (wX4 E a m0_12)) (Y := List.drop 12 (wX4 E a m0_12)) (w := (wX4 E a m0_12)) (w' := (wX4 E a m0_12)) (q0 := 0) lk_X4_66 hx hb hml hown hE hA (c_X4_doesNow l E a m0_12 p1 r15 hc14) rfl rfl hP hD hS rfl rfl ⟨rfl, rfl, Nat.le_of_ble_eq_true rfl, Nat.le_of_ble_eq_true rfl⟩ hl.1 (As := [.int p1]) (rest := []) rfl rfl (Nat.le_of_ble_eq_true rfl) ⟨Nat.zero_le _, Nat.zero_le _⟩ dX4_does_62 (fun H locs hP hD hS => ?_)
            refine W.eq (g2 := F0 m 65 ls [.int r15]) rfl ?_
            refine lv_iload_n hx hb dX4_does_65 rfl (lv_at hl 3 rfl) ?_
            obtain ⟨x17, hq19, hf⟩ := jn1_some hf
            have J18 : ∀ (H : Heap) (locs : List Loc) (ls : Array Slot), va_P E.1 vwCl (wX4 E a m0_12) H → va_D A (wX4 E a m0_12) → va_S A s.heap H locs → lv_has ls 5 [(3, .int v3_12), (0, .ref (a 0)), (1, .int p1), (2, .int p2)] → W p l e (rmk 5 115) s m [.ref (a 0), .int p1, .int p2].toArray below meth c H locs 0 0 (MQ below (Qct E A (wX4 E a m0') (some (.int r))) [.ref (a 0), .int p1, .int p2].toArray s 0 0 A) (F0 m 74 ls [.int x17]) := by
              intro H locs ls hP hD hS hl
              refine lv_istore (lv' := [(4, .int x17), (3, .int v3_12), (0, .ref (a 0)), (1, .int p1), (2, .int p2)]) hx hb dX4_does_74 hl (by decide) rfl (fun ls hl => ?_)
              refine lv_aload_n hx hb dX4_does_76 rfl (lv_at hl 2 rfl) ?_
              refine va_get (D := E.1) (ci := 4) (v := .ref (a 3)) (C := RX4) (T := TX4) (N := 18) hx hb hts inX4 hown hE.2.1 hP 0 rfl rfl 2 (by decide) (hE.w tw_600) (fun _ h9 => h9) rfl dX4_does_77 ?_
              refine lv_aload_n hx hb dX4_does_80 rfl (lv_at hl 2 rfl) ?_
              refine va_get (D := E.1) (ci := 4) (v := .ref (a 1)) (C := RX4) (T := TX4) (N := 18) hx hb hts inX4 hown hE.2.1 hP 0 rfl rfl 0 (by decide) (hE.w tw_598) (fun _ h9 => h9) rfl dX4_does_81 ?_
              obtain ⟨m21, hc20, hf⟩ := bd1_some hf
              refine cS (X := List.take 0 (wX4 E a m0_12)) (Y := List.drop 12 (wX4 E a m0_12)) (w := (wX4 E a m0_12)) (w' := (wX4 E a m21)) lk_X4_129 hx hb hml hown hE hA (c_X4_copies_aside_d l E a m0_12 m21 hc20) rfl rfl hP hD hS ⟨rfl, rfl, Nat.le_of_ble_eq_true rfl, Nat.le_of_ble_eq_true rfl⟩ hl.1 (As := [.ref (a 3), .ref (a 1)]) (rest := []) rfl rfl (Nat.le_of_ble_eq_true rfl) ⟨Nat.zero_le _, Nat.zero_le _⟩ dX4_does_84 (fun H locs hP hD hS => ?_)
              refine W.eq (g2 := F0 m 87 ls []) rfl ?_
              refine lv_iload hx hb dX4_does_87 (lv_at hl 0 rfl) ?_
              refine lv_if_eq (tgt := 96) hx hb dX4_does_89 (by decide) (fun c22 => ?_) (fun c22 => ?_)
              · have hf := ip c22 hf
                refine lv_aload_n hx hb dX4_does_96 rfl (lv_at hl 2 rfl) ?_
                refine lv_iconst (v := (3 : Int32)) hx hb dX4_does_97 (by decide) ?_
                obtain ⟨r24, m25, hc23, hf⟩ := bd2_some hf
                refine cV (X := List.take 0 (wX4 E a m21)) (Y := List.drop 12 (wX4 E a m21)) (w := (wX4 E a m21)) (w' := (wX4 E a m25)) (q0 := 0) lk_X4_92 hx hb hml hown hE hA (c_X4_finds l E a m21 (3 : Int32) r24 m25 hc23) rfl rfl hP hD hS rfl rfl ⟨rfl, rfl, Nat.le_of_ble_eq_true rfl, Nat.le_of_ble_eq_true rfl⟩ hl.1 (As := [.int (3 : Int32)]) (rest := []) rfl rfl (Nat.le_of_ble_eq_true rfl) ⟨Nat.zero_le _, Nat.zero_le _⟩ dX4_does_98 (fun H locs hP hD hS => ?_)
                refine W.eq (g2 := F0 m 101 ls [.int r24]) rfl ?_
                obtain ⟨rfl, rfl⟩ := so2 hf
                exact rt_i hx hb hr hlocks hP hD hS dX4_does_101
              · have hf := im c22 hf
                refine lv_iload_n hx hb dX4_does_92 rfl (lv_at hl 1 rfl) ?_
                refine lv_goto (tgt := 101) hx hb dX4_does_93 (by decide) ?_
                obtain ⟨rfl, rfl⟩ := so2 hf
                exact rt_i hx hb hr hlocks hP hD hS dX4_does_101
            refine lv_icmp_ne (tgt := 73) hx hb dX4_does_66 (by decide) (fun c16 => ?_) (fun c16 => ?_)
            · have hq19 := ien c16 hq19
              refine lv_iconst (v := (0 : Int32)) hx hb dX4_does_73 (by decide) ?_
              obtain rfl := pj1 hq19
              exact J18 _ _ _ hP hD hS (lv_sub hl [0, 1, 2, 3] rfl)
            · have hq19 := ie c16 hq19
              refine lv_iconst (v := (1 : Int32)) hx hb dX4_does_69 (by decide) ?_
              refine lv_goto (tgt := 74) hx hb dX4_does_70 (by decide) ?_
              obtain rfl := pj1 hq19
              exact J18 _ _ _ hP hD hS (lv_sub hl [0, 1, 2, 3] rfl)
          · have hf := im c13 hf
            refine lv_aload_n hx hb dX4_does_41 rfl (lv_at hl 1 rfl) ?_
            refine lv_iload_n hx hb dX4_does_42 rfl (lv_at hl 2 rfl) ?_
            obtain ⟨r27, hc26, hf⟩ := bd1_some hf
            refine cV (X := List.take 0 (wX4 E a m0_12)) (Y := List.drop 12 (wX4 E a m0_12)) (w := (wX4 E a m0_12)) (w' := (wX4 E a m0_12)) (q0 := 0) lk_X4_66 hx hb hml hown hE hA (c_X4_doesNow l E a m0_12 p1 r27 hc26) rfl rfl hP hD hS rfl rfl ⟨rfl, rfl, Nat.le_of_ble_eq_true rfl, Nat.le_of_ble_eq_true rfl⟩ hl.1 (As := [.int p1]) (rest := []) rfl rfl (Nat.le_of_ble_eq_true rfl) ⟨Nat.zero_le _, Nat.zero_le _⟩ dX4_does_43 (fun H locs hP hD hS => ?_)
            refine W.eq (g2 := F0 m 46 ls [.int r27]) rfl ?_
            refine lv_iload_n hx hb dX4_does_46 rfl (lv_at hl 3 rfl) ?_
            refine lv_icmp_eq (tgt := 60) hx hb dX4_does_47 (by decide) (fun c28 => ?_) (fun c28 => ?_)
            · have hf := ip c28 hf
              refine lv_aload_n hx hb dX4_does_60 rfl (lv_at hl 1 rfl) ?_
              refine lv_iload_n hx hb dX4_does_61 rfl (lv_at hl 2 rfl) ?_
              obtain ⟨r30, hc29, hf⟩ := bd1_some hf
              refine cV (X := List.take 0 (wX4 E a m0_12)) (Y := List.drop 12 (wX4 E a m0_12)) (w := (wX4 E a m0_12)) (w' := (wX4 E a m0_12)) (q0 := 0) lk_X4_66 hx hb hml hown hE hA (c_X4_doesNow l E a m0_12 p1 r30 hc29) rfl rfl hP hD hS rfl rfl ⟨rfl, rfl, Nat.le_of_ble_eq_true rfl, Nat.le_of_ble_eq_true rfl⟩ hl.1 (As := [.int p1]) (rest := []) rfl rfl (Nat.le_of_ble_eq_true rfl) ⟨Nat.zero_le _, Nat.zero_le _⟩ dX4_does_62 (fun H locs hP hD hS => ?_)
              refine W.eq (g2 := F0 m 65 ls [.int r30]) rfl ?_
              refine lv_iload_n hx hb dX4_does_65 rfl (lv_at hl 3 rfl) ?_
              obtain ⟨x32, hq34, hf⟩ := jn1_some hf
              have J33 : ∀ (H : Heap) (locs : List Loc) (ls : Array Slot), va_P E.1 vwCl (wX4 E a m0_12) H → va_D A (wX4 E a m0_12) → va_S A s.heap H locs → lv_has ls 5 [(3, .int v3_12), (0, .ref (a 0)), (1, .int p1), (2, .int p2)] → W p l e (rmk 5 115) s m [.ref (a 0), .int p1, .int p2].toArray below meth c H locs 0 0 (MQ below (Qct E A (wX4 E a m0') (some (.int r))) [.ref (a 0), .int p1, .int p2].toArray s 0 0 A) (F0 m 74 ls [.int x32]) := by
                intro H locs ls hP hD hS hl
                refine lv_istore (lv' := [(4, .int x32), (3, .int v3_12), (0, .ref (a 0)), (1, .int p1), (2, .int p2)]) hx hb dX4_does_74 hl (by decide) rfl (fun ls hl => ?_)
                refine lv_aload_n hx hb dX4_does_76 rfl (lv_at hl 2 rfl) ?_
                refine va_get (D := E.1) (ci := 4) (v := .ref (a 3)) (C := RX4) (T := TX4) (N := 18) hx hb hts inX4 hown hE.2.1 hP 0 rfl rfl 2 (by decide) (hE.w tw_600) (fun _ h9 => h9) rfl dX4_does_77 ?_
                refine lv_aload_n hx hb dX4_does_80 rfl (lv_at hl 2 rfl) ?_
                refine va_get (D := E.1) (ci := 4) (v := .ref (a 1)) (C := RX4) (T := TX4) (N := 18) hx hb hts inX4 hown hE.2.1 hP 0 rfl rfl 0 (by decide) (hE.w tw_598) (fun _ h9 => h9) rfl dX4_does_81 ?_
                obtain ⟨m36, hc35, hf⟩ := bd1_some hf
                refine cS (X := List.take 0 (wX4 E a m0_12)) (Y := List.drop 12 (wX4 E a m0_12)) (w := (wX4 E a m0_12)) (w' := (wX4 E a m36)) lk_X4_129 hx hb hml hown hE hA (c_X4_copies_aside_d l E a m0_12 m36 hc35) rfl rfl hP hD hS ⟨rfl, rfl, Nat.le_of_ble_eq_true rfl, Nat.le_of_ble_eq_true rfl⟩ hl.1 (As := [.ref (a 3), .ref (a 1)]) (rest := []) rfl rfl (Nat.le_of_ble_eq_true rfl) ⟨Nat.zero_le _, Nat.zero_le _⟩ dX4_does_84 (fun H locs hP hD hS => ?_)
                refine W.eq (g2 := F0 m 87 ls []) rfl ?_
                refine lv_iload hx hb dX4_does_87 (lv_at hl 0 rfl) ?_
                refine lv_if_eq (tgt := 96) hx hb dX4_does_89 (by decide) (fun c37 => ?_) (fun c37 => ?_)
                · have hf := ip c37 hf
                  refine lv_aload_n hx hb dX4_does_96 rfl (lv_at hl 2 rfl) ?_
                  refine lv_iconst (v := (3 : Int32)) hx hb dX4_does_97 (by decide) ?_
                  obtain ⟨r39, m40, hc38, hf⟩ := bd2_some hf
                  refine cV (X := List.take 0 (wX4 E a m36)) (Y := List.drop 12 (wX4 E a m36)) (w := (wX4 E a m36)) (w' := (wX4 E a m40)) (q0 := 0) lk_X4_92 hx hb hml hown hE hA (c_X4_finds l E a m36 (3 : Int32) r39 m40 hc38) rfl rfl hP hD hS rfl rfl ⟨rfl, rfl, Nat.le_of_ble_eq_true rfl, Nat.le_of_ble_eq_true rfl⟩ hl.1 (As := [.int (3 : Int32)]) (rest := []) rfl rfl (Nat.le_of_ble_eq_true rfl) ⟨Nat.zero_le _, Nat.zero_le _⟩ dX4_does_98 (fun H locs hP hD hS => ?_)
                  refine W.eq (g2 := F0 m 101 ls [.int r39]) rfl ?_
                  obtain ⟨rfl, rfl⟩ := so2 hf
                  exact rt_i hx hb hr hlocks hP hD hS dX4_does_101
                · have hf := im c37 hf
                  refine lv_iload_n hx hb dX4_does_92 rfl (lv_at hl 1 rfl) ?_
                  refine lv_goto (tgt := 101) hx hb dX4_does_93 (by decide) ?_
                  obtain ⟨rfl, rfl⟩ := so2 hf
                  exact rt_i hx hb hr hlocks hP hD hS dX4_does_101
              refine lv_icmp_ne (tgt := 73) hx hb dX4_does_66 (by decide) (fun c31 => ?_) (fun c31 => ?_)
              · have hq34 := ien c31 hq34
                refine lv_iconst (v := (0 : Int32)) hx hb dX4_does_73 (by decide) ?_
                obtain rfl := pj1 hq34
                exact J33 _ _ _ hP hD hS (lv_sub hl [0, 1, 2, 3] rfl)
              · have hq34 := ie c31 hq34
                refine lv_iconst (v := (1 : Int32)) hx hb dX4_does_69 (by decide) ?_
                refine lv_goto (tgt := 74) hx hb dX4_does_70 (by decide) ?_
                obtain rfl := pj1 hq34
                exact J33 _ _ _ hP hD hS (lv_sub hl [0, 1, 2, 3] rfl)
            · have hf := im c28 hf
              refine lv_aload_n hx hb dX4_does_50 rfl (lv_at hl 1 rfl) ?_
              obtain ⟨m42, hc41, hf⟩ := bd1_some hf
              refine cV (X := List.take 0 (wX4 E a m0_12)) (Y := List.drop 12 (wX4 E a m0_12)) (w := (wX4 E a m0_12)) (w' := (wX4 E a m42)) (q0 := 0) lk_X4_80 hx hb hml hown hE hA (c_X4_momentGoes l E a m0_12 m42 hc41) rfl rfl hP hD hS rfl rfl ⟨rfl, rfl, Nat.le_of_ble_eq_true rfl, Nat.le_of_ble_eq_true rfl⟩ hl.1 (As := []) (rest := []) rfl rfl (Nat.le_of_ble_eq_true rfl) ⟨Nat.zero_le _, Nat.zero_le _⟩ dX4_does_51 (fun H locs hP hD hS => ?_)
              refine W.eq (g2 := F0 m 54 ls []) rfl ?_
              refine lv_iinc (v := (v3_12 + (1 : Int32))) (lv' := [(3, .int (v3_12 + (1 : Int32))), (0, .ref (a 0)), (1, .int p1), (2, .int p2)]) hx hb dX4_does_54 hl (k := 0) rfl rfl (by decide) rfl (fun ls hl => ?_)
              refine lv_goto (tgt := 34) hx hb dX4_does_57 (by decide) ?_
              exact ih_12 _ _ hf _ _ _ hP hD hS (lv_sub hl [0, 1, 2, 3] rfl)
      exact L_12 _ _ _ hf _ _ _ hP hD hS (lv_sub hl [0, 1, 2, 3] rfl)
    · have hf := ip c9 hf
      refine lv_aload_n hx hb dX4_does_15 rfl (lv_at hl 0 rfl) ?_
      refine lv_iconst (v := (0 : Int32)) hx hb dX4_does_16 (by decide) ?_
      obtain ⟨r44, m45, hc43, hf⟩ := bd2_some hf
      refine cV (X := List.take 0 (wX4 E a m0)) (Y := List.drop 12 (wX4 E a m0)) (w := (wX4 E a m0)) (w' := (wX4 E a m45)) (q0 := 0) lk_X4_92 hx hb hml hown hE hA (c_X4_finds l E a m0 (0 : Int32) r44 m45 hc43) rfl rfl hP hD hS rfl rfl ⟨rfl, rfl, Nat.le_of_ble_eq_true rfl, Nat.le_of_ble_eq_true rfl⟩ hl.1 (As := [.int (0 : Int32)]) (rest := []) rfl rfl (Nat.le_of_ble_eq_true rfl) ⟨Nat.zero_le _, Nat.zero_le _⟩ dX4_does_17 (fun H locs hP hD hS => ?_)
      refine W.eq (g2 := F0 m 20 ls [.int r44]) rfl ?_
      obtain ⟨rfl, rfl⟩ := so2 hf
      exact rt_i hx hb hr hlocks hP hD hS dX4_does_20
def lp_X4_comes_41 (p1 : Int32) (p2 : Int32) : Nat → (Int32) → (MS) → Option (Int32 × MS)
  | 0, _, _ => none
  | k_12 + 1, v3_12, m0_12 => if (400 : Int32) ≤ v3_12 then bd1 (f_X4_its m0_12 p1 (2 : Int32)) (fun r15 => jn1 (if r15 < p2 then ((0 : Int32)) else ((1 : Int32))) (fun x17 => bd1 (f_X4_copies_aside_d m0_12) (fun m21 => if x17 = 0 then bd2 (f_X4_finds m21 (3 : Int32)) (fun r24 m25 => some (r24, m25)) else some (v3_12, m21)))) else bd1 (f_X4_its m0_12 p1 (2 : Int32)) (fun r27 => if p2 ≤ r27 then bd1 (f_X4_its m0_12 p1 (2 : Int32)) (fun r30 => jn1 (if r30 < p2 then ((0 : Int32)) else ((1 : Int32))) (fun x32 => bd1 (f_X4_copies_aside_d m0_12) (fun m36 => if x32 = 0 then bd2 (f_X4_finds m36 (3 : Int32)) (fun r39 m40 => some (r39, m40)) else some (v3_12, m36)))) else bd1 (f_X4_momentGoes m0_12) (fun m42 => lp_X4_comes_41 p1 p2 k_12 (v3_12 + (1 : Int32)) m42))
def f_X4_comes (m0 : MS) (p1 : Int32) (p2 : Int32) : Option (Int32 × MS) := bd1 (f_X4_isPerson m0 p1) (fun r2 => if (bI r2) = 0 then bd2 (f_X4_finds m0 (0 : Int32)) (fun r5 m6 => some (r5, m6)) else bd1 (f_X4_in (p2.toInt64) (-9999 : Int64) (9999 : Int64)) (fun r8 => if (bI r8) = 0 then bd2 (f_X4_finds m0 (0 : Int32)) (fun r44 m45 => some (r44, m45)) else bd1 (f_X4_copies_d_aside m0) (fun m11 => lp_X4_comes_41 p1 p2 FU (0 : Int32) m11)))
set_option maxHeartbeats 4000000 in
set_option maxRecDepth 100000 in
theorem c_X4_comes (l : Launch) (E : EV) (a : Nat → Nat) (m0 : MS) (p1 : Int32) (p2 : Int32)  (r : Int32) (m0' : MS) (hf : f_X4_comes m0 p1 p2 = some (r, m0')) : Ct l E yX4_comes cX4_comes 5 ((Option.some FieldType.int)) (rmk 5 115) [.ref (a 0), .int p1, .int p2] (wX4 E a m0) (wX4 E a m0') (some (.int r)) := by
  refine Ct.of (by decide) (Nat.le_of_ble_eq_true rfl) ?_
  intro p e s m below meth c A ls hC hP hD hl
  obtain ⟨hx, hb, hr, hml, hown, hlocks, hE, hA⟩ := hC
  have hts : ∀ w ∈ tbl, w.before [.ref (a 0), .int p1, .int p2].toArray s = true := fun w hw => hE.w hw
  have hS : va_S A s.heap s.heap [] := va_S.rf
  have hl : lv_has ls 5 [(0, .ref (a 0)), (1, .int p1), (2, .int p2)] := hl
  unfold f_X4_comes at hf
  refine lv_aload_n hx hb dX4_comes_0 rfl (lv_at hl 0 rfl) ?_
  refine lv_iload_n hx hb dX4_comes_1 rfl (lv_at hl 1 rfl) ?_
  obtain ⟨r2, hc1, hf⟩ := bd1_some hf
  refine cV (X := List.take 0 (wX4 E a m0)) (Y := List.drop 12 (wX4 E a m0)) (w := (wX4 E a m0)) (w' := (wX4 E a m0)) (q0 := 0) lk_X4_50 hx hb hml hown hE hA (c_X4_isPerson l E a m0 p1 r2 hc1) rfl rfl hP hD hS rfl rfl ⟨rfl, rfl, Nat.le_of_ble_eq_true rfl, Nat.le_of_ble_eq_true rfl⟩ hl.1 (As := [.int p1]) (rest := []) rfl rfl (Nat.le_of_ble_eq_true rfl) ⟨Nat.zero_le _, Nat.zero_le _⟩ dX4_comes_2 (fun H locs hP hD hS => ?_)
  refine W.eq (g2 := F0 m 5 ls [.int (bI r2)]) rfl ?_
  refine lv_if_eq (tgt := 22) hx hb dX4_comes_5 (by decide) (fun c3 => ?_) (fun c3 => ?_)
  · have hf := ip c3 hf
    refine lv_aload_n hx hb dX4_comes_22 rfl (lv_at hl 0 rfl) ?_
    refine lv_iconst (v := (0 : Int32)) hx hb dX4_comes_23 (by decide) ?_
    obtain ⟨r5, m6, hc4, hf⟩ := bd2_some hf
    refine cV (X := List.take 0 (wX4 E a m0)) (Y := List.drop 12 (wX4 E a m0)) (w := (wX4 E a m0)) (w' := (wX4 E a m6)) (q0 := 0) lk_X4_92 hx hb hml hown hE hA (c_X4_finds l E a m0 (0 : Int32) r5 m6 hc4) rfl rfl hP hD hS rfl rfl ⟨rfl, rfl, Nat.le_of_ble_eq_true rfl, Nat.le_of_ble_eq_true rfl⟩ hl.1 (As := [.int (0 : Int32)]) (rest := []) rfl rfl (Nat.le_of_ble_eq_true rfl) ⟨Nat.zero_le _, Nat.zero_le _⟩ dX4_comes_24 (fun H locs hP hD hS => ?_)
    refine W.eq (g2 := F0 m 27 ls [.int r5]) rfl ?_
    obtain ⟨rfl, rfl⟩ := so2 hf
    exact rt_i hx hb hr hlocks hP hD hS dX4_comes_27
  · have hf := im c3 hf
    refine lv_iload_n hx hb dX4_comes_8 rfl (lv_at hl 2 rfl) ?_
    refine lv_i2l (v := (p2.toInt64)) hx hb dX4_comes_9 rfl ?_
    refine lv_ldc2 (v := (-9999 : Int64)) hx hb hown (hE.w tw_743) dX4_comes_10 ?_
    refine lv_ldc2 (v := (9999 : Int64)) hx hb hown (hE.w tw_744) dX4_comes_13 ?_
    obtain ⟨r8, hc7, hf⟩ := bd1_some hf
    refine cS (X := List.take 0 (wX4 E a m0)) (Y := List.drop 0 (wX4 E a m0)) (w := (wX4 E a m0)) (w' := (wX4 E a m0)) lk_X4_46 hx hb hml hown hE hA (c_X4_in l E (p2.toInt64) (-9999 : Int64) (9999 : Int64) r8 hc7) rfl rfl hP hD hS ⟨rfl, rfl, Nat.le_of_ble_eq_true rfl, Nat.le_of_ble_eq_true rfl⟩ hl.1 (As := [.long (p2.toInt64), .long (-9999 : Int64), .long (9999 : Int64)]) (rest := []) rfl rfl (Nat.le_of_ble_eq_true rfl) ⟨Nat.zero_le _, Nat.zero_le _⟩ dX4_comes_16 (fun H locs hP hD hS => ?_)
    refine W.eq (g2 := F0 m 19 ls [.int (bI r8)]) rfl ?_
    refine lv_if_ne (tgt := 28) hx hb dX4_comes_19 (by decide) (fun c9 => ?_) (fun c9 => ?_)
    · have hf := im c9 hf
      refine lv_aload_n hx hb dX4_comes_28 rfl (lv_at hl 0 rfl) ?_
      refine va_get (D := E.1) (ci := 4) (v := .ref (a 1)) (C := RX4) (T := TX4) (N := 18) hx hb hts inX4 hown hE.2.1 hP 0 rfl rfl 0 (by decide) (hE.w tw_598) (fun _ h9 => h9) rfl dX4_comes_29 ?_
      refine lv_aload_n hx hb dX4_comes_32 rfl (lv_at hl 0 rfl) ?_
      refine va_get (D := E.1) (ci := 4) (v := .ref (a 3)) (C := RX4) (T := TX4) (N := 18) hx hb hts inX4 hown hE.2.1 hP 0 rfl rfl 2 (by decide) (hE.w tw_600) (fun _ h9 => h9) rfl dX4_comes_33 ?_
      obtain ⟨m11, hc10, hf⟩ := bd1_some hf
      refine cS (X := List.take 0 (wX4 E a m0)) (Y := List.drop 12 (wX4 E a m0)) (w := (wX4 E a m0)) (w' := (wX4 E a m11)) lk_X4_129 hx hb hml hown hE hA (c_X4_copies_d_aside l E a m0 m11 hc10) rfl rfl hP hD hS ⟨rfl, rfl, Nat.le_of_ble_eq_true rfl, Nat.le_of_ble_eq_true rfl⟩ hl.1 (As := [.ref (a 1), .ref (a 3)]) (rest := []) rfl rfl (Nat.le_of_ble_eq_true rfl) ⟨Nat.zero_le _, Nat.zero_le _⟩ dX4_comes_36 (fun H locs hP hD hS => ?_)
      refine W.eq (g2 := F0 m 39 ls []) rfl ?_
      refine lv_iconst (v := (0 : Int32)) hx hb dX4_comes_39 (by decide) ?_
      refine lv_istore_n (lv' := [(3, .int (0 : Int32)), (0, .ref (a 0)), (1, .int p1), (2, .int p2)]) hx hb dX4_comes_40 rfl hl (by decide) rfl (fun ls hl => ?_)
      have L_12 : ∀ (k_12 : Nat) (v3_12 : Int32) (m0_12 : MS), lp_X4_comes_41 p1 p2 k_12 v3_12 m0_12 = some (r, m0') → ∀ (H : Heap) (locs : List Loc) (ls : Array Slot), va_P E.1 vwCl (wX4 E a m0_12) H → va_D A (wX4 E a m0_12) → va_S A s.heap H locs → lv_has ls 5 [(3, .int v3_12), (0, .ref (a 0)), (1, .int p1), (2, .int p2)] → W p l e (rmk 5 115) s m [.ref (a 0), .int p1, .int p2].toArray below meth c H locs 0 0 (MQ below (Qct E A (wX4 E a m0') (some (.int r))) [.ref (a 0), .int p1, .int p2].toArray s 0 0 A) (F0 m 41 ls []) := by
        intro k_12
        induction k_12 with
        | zero =>
          intro v3_12 m0_12 hf
          rw [lp_X4_comes_41] at hf
          cases hf
        | succ k_12 ih_12 =>
          intro v3_12 m0_12 hf H locs ls hP hD hS hl
          rw [lp_X4_comes_41] at hf
          refine lv_iload_n hx hb dX4_comes_41 rfl (lv_at hl 0 rfl) ?_
          refine lv_sipush (v := (400 : Int32)) hx hb dX4_comes_42 (by decide) ?_
          refine lv_icmp_ge (tgt := 68) hx hb dX4_comes_45 (by decide) (fun c13 => ?_) (fun c13 => ?_)
          · have hf := ip c13 hf
            refine lv_aload_n hx hb dX4_comes_68 rfl (lv_at hl 1 rfl) ?_
            refine lv_iload_n hx hb dX4_comes_69 rfl (lv_at hl 2 rfl) ?_
            refine lv_iconst (v := (2 : Int32)) hx hb dX4_comes_70 (by decide) ?_
            obtain ⟨r15, hc14, hf⟩ := bd1_some hf
            refine cV (X := List.take 0 (wX4 E a m0_12)) (Y := List.drop 12 (wX4 E a m0_12)) (w := (wX4 E a m0_12)) (w' := (wX4 E a m0_12)) (q0 := 0) lk_X4_54 hx hb hml hown hE hA (c_X4_its l E a m0_12 p1 (2 : Int32) r15 hc14) rfl rfl hP hD hS rfl rfl ⟨rfl, rfl, Nat.le_of_ble_eq_true rfl, Nat.le_of_ble_eq_true rfl⟩ hl.1 (As := [.int p1, .int (2 : Int32)]) (rest := []) rfl rfl (Nat.le_of_ble_eq_true rfl) ⟨Nat.zero_le _, Nat.zero_le _⟩ dX4_comes_71 (fun H locs hP hD hS => ?_)
            refine W.eq (g2 := F0 m 74 ls [.int r15]) rfl ?_
            refine lv_iload_n hx hb dX4_comes_74 rfl (lv_at hl 3 rfl) ?_
            obtain ⟨x17, hq19, hf⟩ := jn1_some hf
            have J18 : ∀ (H : Heap) (locs : List Loc) (ls : Array Slot), va_P E.1 vwCl (wX4 E a m0_12) H → va_D A (wX4 E a m0_12) → va_S A s.heap H locs → lv_has ls 5 [(3, .int v3_12), (0, .ref (a 0)), (1, .int p1), (2, .int p2)] → W p l e (rmk 5 115) s m [.ref (a 0), .int p1, .int p2].toArray below meth c H locs 0 0 (MQ below (Qct E A (wX4 E a m0') (some (.int r))) [.ref (a 0), .int p1, .int p2].toArray s 0 0 A) (F0 m 83 ls [.int x17]) := by
              intro H locs ls hP hD hS hl
              refine lv_istore (lv' := [(4, .int x17), (3, .int v3_12), (0, .ref (a 0)), (1, .int p1), (2, .int p2)]) hx hb dX4_comes_83 hl (by decide) rfl (fun ls hl => ?_)
              refine lv_aload_n hx hb dX4_comes_85 rfl (lv_at hl 2 rfl) ?_
              refine va_get (D := E.1) (ci := 4) (v := .ref (a 3)) (C := RX4) (T := TX4) (N := 18) hx hb hts inX4 hown hE.2.1 hP 0 rfl rfl 2 (by decide) (hE.w tw_600) (fun _ h9 => h9) rfl dX4_comes_86 ?_
              refine lv_aload_n hx hb dX4_comes_89 rfl (lv_at hl 2 rfl) ?_
              refine va_get (D := E.1) (ci := 4) (v := .ref (a 1)) (C := RX4) (T := TX4) (N := 18) hx hb hts inX4 hown hE.2.1 hP 0 rfl rfl 0 (by decide) (hE.w tw_598) (fun _ h9 => h9) rfl dX4_comes_90 ?_
              obtain ⟨m21, hc20, hf⟩ := bd1_some hf
              refine cS (X := List.take 0 (wX4 E a m0_12)) (Y := List.drop 12 (wX4 E a m0_12)) (w := (wX4 E a m0_12)) (w' := (wX4 E a m21)) lk_X4_129 hx hb hml hown hE hA (c_X4_copies_aside_d l E a m0_12 m21 hc20) rfl rfl hP hD hS ⟨rfl, rfl, Nat.le_of_ble_eq_true rfl, Nat.le_of_ble_eq_true rfl⟩ hl.1 (As := [.ref (a 3), .ref (a 1)]) (rest := []) rfl rfl (Nat.le_of_ble_eq_true rfl) ⟨Nat.zero_le _, Nat.zero_le _⟩ dX4_comes_93 (fun H locs hP hD hS => ?_)
              refine W.eq (g2 := F0 m 96 ls []) rfl ?_
              refine lv_iload hx hb dX4_comes_96 (lv_at hl 0 rfl) ?_
              refine lv_if_eq (tgt := 105) hx hb dX4_comes_98 (by decide) (fun c22 => ?_) (fun c22 => ?_)
              · have hf := ip c22 hf
                refine lv_aload_n hx hb dX4_comes_105 rfl (lv_at hl 2 rfl) ?_
                refine lv_iconst (v := (3 : Int32)) hx hb dX4_comes_106 (by decide) ?_
                obtain ⟨r24, m25, hc23, hf⟩ := bd2_some hf
                refine cV (X := List.take 0 (wX4 E a m21)) (Y := List.drop 12 (wX4 E a m21)) (w := (wX4 E a m21)) (w' := (wX4 E a m25)) (q0 := 0) lk_X4_92 hx hb hml hown hE hA (c_X4_finds l E a m21 (3 : Int32) r24 m25 hc23) rfl rfl hP hD hS rfl rfl ⟨rfl, rfl, Nat.le_of_ble_eq_true rfl, Nat.le_of_ble_eq_true rfl⟩ hl.1 (As := [.int (3 : Int32)]) (rest := []) rfl rfl (Nat.le_of_ble_eq_true rfl) ⟨Nat.zero_le _, Nat.zero_le _⟩ dX4_comes_107 (fun H locs hP hD hS => ?_)
                refine W.eq (g2 := F0 m 110 ls [.int r24]) rfl ?_
                obtain ⟨rfl, rfl⟩ := so2 hf
                exact rt_i hx hb hr hlocks hP hD hS dX4_comes_110
              · have hf := im c22 hf
                refine lv_iload_n hx hb dX4_comes_101 rfl (lv_at hl 1 rfl) ?_
                refine lv_goto (tgt := 110) hx hb dX4_comes_102 (by decide) ?_
                obtain ⟨rfl, rfl⟩ := so2 hf
                exact rt_i hx hb hr hlocks hP hD hS dX4_comes_110
            refine lv_icmp_lt (tgt := 82) hx hb dX4_comes_75 (by decide) (fun c16 => ?_) (fun c16 => ?_)
            · have hq19 := ie c16 hq19
              refine lv_iconst (v := (0 : Int32)) hx hb dX4_comes_82 (by decide) ?_
              obtain rfl := pj1 hq19
              exact J18 _ _ _ hP hD hS (lv_sub hl [0, 1, 2, 3] rfl)
            · have hq19 := ien c16 hq19
              refine lv_iconst (v := (1 : Int32)) hx hb dX4_comes_78 (by decide) ?_
              refine lv_goto (tgt := 83) hx hb dX4_comes_79 (by decide) ?_
              obtain rfl := pj1 hq19
              exact J18 _ _ _ hP hD hS (lv_sub hl [0, 1, 2, 3] rfl)
          · have hf := im c13 hf
            refine lv_aload_n hx hb dX4_comes_48 rfl (lv_at hl 1 rfl) ?_
            refine lv_iload_n hx hb dX4_comes_49 rfl (lv_at hl 2 rfl) ?_
            refine lv_iconst (v := (2 : Int32)) hx hb dX4_comes_50 (by decide) ?_
            obtain ⟨r27, hc26, hf⟩ := bd1_some hf
            refine cV (X := List.take 0 (wX4 E a m0_12)) (Y := List.drop 12 (wX4 E a m0_12)) (w := (wX4 E a m0_12)) (w' := (wX4 E a m0_12)) (q0 := 0) lk_X4_54 hx hb hml hown hE hA (c_X4_its l E a m0_12 p1 (2 : Int32) r27 hc26) rfl rfl hP hD hS rfl rfl ⟨rfl, rfl, Nat.le_of_ble_eq_true rfl, Nat.le_of_ble_eq_true rfl⟩ hl.1 (As := [.int p1, .int (2 : Int32)]) (rest := []) rfl rfl (Nat.le_of_ble_eq_true rfl) ⟨Nat.zero_le _, Nat.zero_le _⟩ dX4_comes_51 (fun H locs hP hD hS => ?_)
            refine W.eq (g2 := F0 m 54 ls [.int r27]) rfl ?_
            refine lv_iload_n hx hb dX4_comes_54 rfl (lv_at hl 3 rfl) ?_
            refine lv_icmp_ge (tgt := 68) hx hb dX4_comes_55 (by decide) (fun c28 => ?_) (fun c28 => ?_)
            · have hf := ip c28 hf
              refine lv_aload_n hx hb dX4_comes_68 rfl (lv_at hl 1 rfl) ?_
              refine lv_iload_n hx hb dX4_comes_69 rfl (lv_at hl 2 rfl) ?_
              refine lv_iconst (v := (2 : Int32)) hx hb dX4_comes_70 (by decide) ?_
              obtain ⟨r30, hc29, hf⟩ := bd1_some hf
              refine cV (X := List.take 0 (wX4 E a m0_12)) (Y := List.drop 12 (wX4 E a m0_12)) (w := (wX4 E a m0_12)) (w' := (wX4 E a m0_12)) (q0 := 0) lk_X4_54 hx hb hml hown hE hA (c_X4_its l E a m0_12 p1 (2 : Int32) r30 hc29) rfl rfl hP hD hS rfl rfl ⟨rfl, rfl, Nat.le_of_ble_eq_true rfl, Nat.le_of_ble_eq_true rfl⟩ hl.1 (As := [.int p1, .int (2 : Int32)]) (rest := []) rfl rfl (Nat.le_of_ble_eq_true rfl) ⟨Nat.zero_le _, Nat.zero_le _⟩ dX4_comes_71 (fun H locs hP hD hS => ?_)
              refine W.eq (g2 := F0 m 74 ls [.int r30]) rfl ?_
              refine lv_iload_n hx hb dX4_comes_74 rfl (lv_at hl 3 rfl) ?_
              obtain ⟨x32, hq34, hf⟩ := jn1_some hf
              have J33 : ∀ (H : Heap) (locs : List Loc) (ls : Array Slot), va_P E.1 vwCl (wX4 E a m0_12) H → va_D A (wX4 E a m0_12) → va_S A s.heap H locs → lv_has ls 5 [(3, .int v3_12), (0, .ref (a 0)), (1, .int p1), (2, .int p2)] → W p l e (rmk 5 115) s m [.ref (a 0), .int p1, .int p2].toArray below meth c H locs 0 0 (MQ below (Qct E A (wX4 E a m0') (some (.int r))) [.ref (a 0), .int p1, .int p2].toArray s 0 0 A) (F0 m 83 ls [.int x32]) := by
                intro H locs ls hP hD hS hl
                refine lv_istore (lv' := [(4, .int x32), (3, .int v3_12), (0, .ref (a 0)), (1, .int p1), (2, .int p2)]) hx hb dX4_comes_83 hl (by decide) rfl (fun ls hl => ?_)
                refine lv_aload_n hx hb dX4_comes_85 rfl (lv_at hl 2 rfl) ?_
                refine va_get (D := E.1) (ci := 4) (v := .ref (a 3)) (C := RX4) (T := TX4) (N := 18) hx hb hts inX4 hown hE.2.1 hP 0 rfl rfl 2 (by decide) (hE.w tw_600) (fun _ h9 => h9) rfl dX4_comes_86 ?_
                refine lv_aload_n hx hb dX4_comes_89 rfl (lv_at hl 2 rfl) ?_
                refine va_get (D := E.1) (ci := 4) (v := .ref (a 1)) (C := RX4) (T := TX4) (N := 18) hx hb hts inX4 hown hE.2.1 hP 0 rfl rfl 0 (by decide) (hE.w tw_598) (fun _ h9 => h9) rfl dX4_comes_90 ?_
                obtain ⟨m36, hc35, hf⟩ := bd1_some hf
                refine cS (X := List.take 0 (wX4 E a m0_12)) (Y := List.drop 12 (wX4 E a m0_12)) (w := (wX4 E a m0_12)) (w' := (wX4 E a m36)) lk_X4_129 hx hb hml hown hE hA (c_X4_copies_aside_d l E a m0_12 m36 hc35) rfl rfl hP hD hS ⟨rfl, rfl, Nat.le_of_ble_eq_true rfl, Nat.le_of_ble_eq_true rfl⟩ hl.1 (As := [.ref (a 3), .ref (a 1)]) (rest := []) rfl rfl (Nat.le_of_ble_eq_true rfl) ⟨Nat.zero_le _, Nat.zero_le _⟩ dX4_comes_93 (fun H locs hP hD hS => ?_)
                refine W.eq (g2 := F0 m 96 ls []) rfl ?_
                refine lv_iload hx hb dX4_comes_96 (lv_at hl 0 rfl) ?_
                refine lv_if_eq (tgt := 105) hx hb dX4_comes_98 (by decide) (fun c37 => ?_) (fun c37 => ?_)
                · have hf := ip c37 hf
                  refine lv_aload_n hx hb dX4_comes_105 rfl (lv_at hl 2 rfl) ?_
                  refine lv_iconst (v := (3 : Int32)) hx hb dX4_comes_106 (by decide) ?_
                  obtain ⟨r39, m40, hc38, hf⟩ := bd2_some hf
                  refine cV (X := List.take 0 (wX4 E a m36)) (Y := List.drop 12 (wX4 E a m36)) (w := (wX4 E a m36)) (w' := (wX4 E a m40)) (q0 := 0) lk_X4_92 hx hb hml hown hE hA (c_X4_finds l E a m36 (3 : Int32) r39 m40 hc38) rfl rfl hP hD hS rfl rfl ⟨rfl, rfl, Nat.le_of_ble_eq_true rfl, Nat.le_of_ble_eq_true rfl⟩ hl.1 (As := [.int (3 : Int32)]) (rest := []) rfl rfl (Nat.le_of_ble_eq_true rfl) ⟨Nat.zero_le _, Nat.zero_le _⟩ dX4_comes_107 (fun H locs hP hD hS => ?_)
                  refine W.eq (g2 := F0 m 110 ls [.int r39]) rfl ?_
                  obtain ⟨rfl, rfl⟩ := so2 hf
                  exact rt_i hx hb hr hlocks hP hD hS dX4_comes_110
                · have hf := im c37 hf
                  refine lv_iload_n hx hb dX4_comes_101 rfl (lv_at hl 1 rfl) ?_
                  refine lv_goto (tgt := 110) hx hb dX4_comes_102 (by decide) ?_
                  obtain ⟨rfl, rfl⟩ := so2 hf
                  exact rt_i hx hb hr hlocks hP hD hS dX4_comes_110
              refine lv_icmp_lt (tgt := 82) hx hb dX4_comes_75 (by decide) (fun c31 => ?_) (fun c31 => ?_)
              · have hq34 := ie c31 hq34
                refine lv_iconst (v := (0 : Int32)) hx hb dX4_comes_82 (by decide) ?_
                obtain rfl := pj1 hq34
                exact J33 _ _ _ hP hD hS (lv_sub hl [0, 1, 2, 3] rfl)
              · have hq34 := ien c31 hq34
                refine lv_iconst (v := (1 : Int32)) hx hb dX4_comes_78 (by decide) ?_
                refine lv_goto (tgt := 83) hx hb dX4_comes_79 (by decide) ?_
                obtain rfl := pj1 hq34
                exact J33 _ _ _ hP hD hS (lv_sub hl [0, 1, 2, 3] rfl)
            · have hf := im c28 hf
              refine lv_aload_n hx hb dX4_comes_58 rfl (lv_at hl 1 rfl) ?_
              obtain ⟨m42, hc41, hf⟩ := bd1_some hf
              refine cV (X := List.take 0 (wX4 E a m0_12)) (Y := List.drop 12 (wX4 E a m0_12)) (w := (wX4 E a m0_12)) (w' := (wX4 E a m42)) (q0 := 0) lk_X4_80 hx hb hml hown hE hA (c_X4_momentGoes l E a m0_12 m42 hc41) rfl rfl hP hD hS rfl rfl ⟨rfl, rfl, Nat.le_of_ble_eq_true rfl, Nat.le_of_ble_eq_true rfl⟩ hl.1 (As := []) (rest := []) rfl rfl (Nat.le_of_ble_eq_true rfl) ⟨Nat.zero_le _, Nat.zero_le _⟩ dX4_comes_59 (fun H locs hP hD hS => ?_)
              refine W.eq (g2 := F0 m 62 ls []) rfl ?_
              refine lv_iinc (v := (v3_12 + (1 : Int32))) (lv' := [(3, .int (v3_12 + (1 : Int32))), (0, .ref (a 0)), (1, .int p1), (2, .int p2)]) hx hb dX4_comes_62 hl (k := 0) rfl rfl (by decide) rfl (fun ls hl => ?_)
              refine lv_goto (tgt := 41) hx hb dX4_comes_65 (by decide) ?_
              exact ih_12 _ _ hf _ _ _ hP hD hS (lv_sub hl [0, 1, 2, 3] rfl)
      exact L_12 _ _ _ hf _ _ _ hP hD hS (lv_sub hl [0, 1, 2, 3] rfl)
    · have hf := ip c9 hf
      refine lv_aload_n hx hb dX4_comes_22 rfl (lv_at hl 0 rfl) ?_
      refine lv_iconst (v := (0 : Int32)) hx hb dX4_comes_23 (by decide) ?_
      obtain ⟨r44, m45, hc43, hf⟩ := bd2_some hf
      refine cV (X := List.take 0 (wX4 E a m0)) (Y := List.drop 12 (wX4 E a m0)) (w := (wX4 E a m0)) (w' := (wX4 E a m45)) (q0 := 0) lk_X4_92 hx hb hml hown hE hA (c_X4_finds l E a m0 (0 : Int32) r44 m45 hc43) rfl rfl hP hD hS rfl rfl ⟨rfl, rfl, Nat.le_of_ble_eq_true rfl, Nat.le_of_ble_eq_true rfl⟩ hl.1 (As := [.int (0 : Int32)]) (rest := []) rfl rfl (Nat.le_of_ble_eq_true rfl) ⟨Nat.zero_le _, Nat.zero_le _⟩ dX4_comes_24 (fun H locs hP hD hS => ?_)
      refine W.eq (g2 := F0 m 27 ls [.int r44]) rfl ?_
      obtain ⟨rfl, rfl⟩ := so2 hf
      exact rt_i hx hb hr hlocks hP hD hS dX4_comes_27
def lp_X4_place_44 (p1 : Int32) (p2 : Int32) : Nat → (Int32) → (Int32) → (Int32) → (MS) → Option (Int32 × MS)
  | 0, _, _, _, _ => none
  | k_15 + 1, v5_15, v4_15, v3_15, m0_15 => gd (0 : Int32) 67 (if ((g4_d m0_15) (0 : Int32).toNatClampNeg) ≤ v5_15 then if 0 ≤ v3_15 then some (v3_15, m0_15) else bd2 (f_X4_finds m0_15 (3 : Int32)) (fun r20 m21 => some (r20, m21)) else bd3 (if v5_15 = p1 then some (v4_15, v3_15, m0_15) else bd1 (f_X4_swaps m0_15 p1 v5_15) (fun m29 => bd2 (f_X4_houseBehind m29 p2) (fun r31 m32 => if r31 ≤ v4_15 then some (v4_15, v3_15, m32) else some (r31, v5_15, m32)))) (fun x23 x24 m025 => lp_X4_place_44 p1 p2 k_15 (v5_15 + (1 : Int32)) x23 x24 m025))
def f_X4_place (m0 : MS) (p1 : Int32) (p2 : Int32) : Option (Int32 × MS) := bd1 (f_X4_isPerson m0 p1) (fun r2 => if (bI r2) = 0 then bd2 (f_X4_finds m0 (0 : Int32)) (fun r5 m6 => some (r5, m6)) else bd1 (f_X4_isShort p2) (fun r8 => if (bI r8) = 0 then bd2 (f_X4_finds m0 (0 : Int32)) (fun r35 m36 => some (r35, m36)) else bd1 (f_X4_copies_d_aside m0) (fun m11 => bd2 (f_X4_houseBehind m11 p2) (fun r13 m14 => lp_X4_place_44 p1 p2 FU (0 : Int32) r13 (-1 : Int32) m14))))
set_option maxHeartbeats 4000000 in
set_option maxRecDepth 100000 in
theorem c_X4_place (l : Launch) (E : EV) (a : Nat → Nat) (m0 : MS) (p1 : Int32) (p2 : Int32)  (r : Int32) (m0' : MS) (hf : f_X4_place m0 p1 p2 = some (r, m0')) : Ct l E yX4_place cX4_place 7 ((Option.some FieldType.int)) (rmk 7 159) [.ref (a 0), .int p1, .int p2] (wX4 E a m0) (wX4 E a m0') (some (.int r)) := by
  refine Ct.of (by decide) (Nat.le_of_ble_eq_true rfl) ?_
  intro p e s m below meth c A ls hC hP hD hl
  obtain ⟨hx, hb, hr, hml, hown, hlocks, hE, hA⟩ := hC
  have hts : ∀ w ∈ tbl, w.before [.ref (a 0), .int p1, .int p2].toArray s = true := fun w hw => hE.w hw
  have hS : va_S A s.heap s.heap [] := va_S.rf
  have hl : lv_has ls 7 [(0, .ref (a 0)), (1, .int p1), (2, .int p2)] := hl
  unfold f_X4_place at hf
  refine lv_aload_n hx hb dX4_place_0 rfl (lv_at hl 0 rfl) ?_
  refine lv_iload_n hx hb dX4_place_1 rfl (lv_at hl 1 rfl) ?_
  obtain ⟨r2, hc1, hf⟩ := bd1_some hf
  refine cV (X := List.take 0 (wX4 E a m0)) (Y := List.drop 12 (wX4 E a m0)) (w := (wX4 E a m0)) (w' := (wX4 E a m0)) (q0 := 0) lk_X4_50 hx hb hml hown hE hA (c_X4_isPerson l E a m0 p1 r2 hc1) rfl rfl hP hD hS rfl rfl ⟨rfl, rfl, Nat.le_of_ble_eq_true rfl, Nat.le_of_ble_eq_true rfl⟩ hl.1 (As := [.int p1]) (rest := []) rfl rfl (Nat.le_of_ble_eq_true rfl) ⟨Nat.zero_le _, Nat.zero_le _⟩ dX4_place_2 (fun H locs hP hD hS => ?_)
  refine W.eq (g2 := F0 m 5 ls [.int (bI r2)]) rfl ?_
  refine lv_if_eq (tgt := 15) hx hb dX4_place_5 (by decide) (fun c3 => ?_) (fun c3 => ?_)
  · have hf := ip c3 hf
    refine lv_aload_n hx hb dX4_place_15 rfl (lv_at hl 0 rfl) ?_
    refine lv_iconst (v := (0 : Int32)) hx hb dX4_place_16 (by decide) ?_
    obtain ⟨r5, m6, hc4, hf⟩ := bd2_some hf
    refine cV (X := List.take 0 (wX4 E a m0)) (Y := List.drop 12 (wX4 E a m0)) (w := (wX4 E a m0)) (w' := (wX4 E a m6)) (q0 := 0) lk_X4_92 hx hb hml hown hE hA (c_X4_finds l E a m0 (0 : Int32) r5 m6 hc4) rfl rfl hP hD hS rfl rfl ⟨rfl, rfl, Nat.le_of_ble_eq_true rfl, Nat.le_of_ble_eq_true rfl⟩ hl.1 (As := [.int (0 : Int32)]) (rest := []) rfl rfl (Nat.le_of_ble_eq_true rfl) ⟨Nat.zero_le _, Nat.zero_le _⟩ dX4_place_17 (fun H locs hP hD hS => ?_)
    refine W.eq (g2 := F0 m 20 ls [.int r5]) rfl ?_
    obtain ⟨rfl, rfl⟩ := so2 hf
    exact rt_i hx hb hr hlocks hP hD hS dX4_place_20
  · have hf := im c3 hf
    refine lv_iload_n hx hb dX4_place_8 rfl (lv_at hl 2 rfl) ?_
    obtain ⟨r8, hc7, hf⟩ := bd1_some hf
    refine cS (X := List.take 0 (wX4 E a m0)) (Y := List.drop 0 (wX4 E a m0)) (w := (wX4 E a m0)) (w' := (wX4 E a m0)) lk_X4_149 hx hb hml hown hE hA (c_X4_isShort l E p2 r8 hc7) rfl rfl hP hD hS ⟨rfl, rfl, Nat.le_of_ble_eq_true rfl, Nat.le_of_ble_eq_true rfl⟩ hl.1 (As := [.int p2]) (rest := []) rfl rfl (Nat.le_of_ble_eq_true rfl) ⟨Nat.zero_le _, Nat.zero_le _⟩ dX4_place_9 (fun H locs hP hD hS => ?_)
    refine W.eq (g2 := F0 m 12 ls [.int (bI r8)]) rfl ?_
    refine lv_if_ne (tgt := 21) hx hb dX4_place_12 (by decide) (fun c9 => ?_) (fun c9 => ?_)
    · have hf := im c9 hf
      refine lv_aload_n hx hb dX4_place_21 rfl (lv_at hl 0 rfl) ?_
      refine va_get (D := E.1) (ci := 4) (v := .ref (a 1)) (C := RX4) (T := TX4) (N := 18) hx hb hts inX4 hown hE.2.1 hP 0 rfl rfl 0 (by decide) (hE.w tw_598) (fun _ h9 => h9) rfl dX4_place_22 ?_
      refine lv_aload_n hx hb dX4_place_25 rfl (lv_at hl 0 rfl) ?_
      refine va_get (D := E.1) (ci := 4) (v := .ref (a 3)) (C := RX4) (T := TX4) (N := 18) hx hb hts inX4 hown hE.2.1 hP 0 rfl rfl 2 (by decide) (hE.w tw_600) (fun _ h9 => h9) rfl dX4_place_26 ?_
      obtain ⟨m11, hc10, hf⟩ := bd1_some hf
      refine cS (X := List.take 0 (wX4 E a m0)) (Y := List.drop 12 (wX4 E a m0)) (w := (wX4 E a m0)) (w' := (wX4 E a m11)) lk_X4_129 hx hb hml hown hE hA (c_X4_copies_d_aside l E a m0 m11 hc10) rfl rfl hP hD hS ⟨rfl, rfl, Nat.le_of_ble_eq_true rfl, Nat.le_of_ble_eq_true rfl⟩ hl.1 (As := [.ref (a 1), .ref (a 3)]) (rest := []) rfl rfl (Nat.le_of_ble_eq_true rfl) ⟨Nat.zero_le _, Nat.zero_le _⟩ dX4_place_29 (fun H locs hP hD hS => ?_)
      refine W.eq (g2 := F0 m 32 ls []) rfl ?_
      refine lv_iconst (v := (-1 : Int32)) hx hb dX4_place_32 (by decide) ?_
      refine lv_istore_n (lv' := [(3, .int (-1 : Int32)), (0, .ref (a 0)), (1, .int p1), (2, .int p2)]) hx hb dX4_place_33 rfl hl (by decide) rfl (fun ls hl => ?_)
      refine lv_aload_n hx hb dX4_place_34 rfl (lv_at hl 1 rfl) ?_
      refine lv_iload_n hx hb dX4_place_35 rfl (lv_at hl 3 rfl) ?_
      obtain ⟨r13, m14, hc12, hf⟩ := bd2_some hf
      refine cV (X := List.take 0 (wX4 E a m11)) (Y := List.drop 12 (wX4 E a m11)) (w := (wX4 E a m11)) (w' := (wX4 E a m14)) (q0 := 0) lk_X4_146 hx hb hml hown hE hA (c_X4_houseBehind l E a m11 p2 r13 m14 hc12) rfl rfl hP hD hS rfl rfl ⟨rfl, rfl, Nat.le_of_ble_eq_true rfl, Nat.le_of_ble_eq_true rfl⟩ hl.1 (As := [.int p2]) (rest := []) rfl rfl (Nat.le_of_ble_eq_true rfl) ⟨Nat.zero_le _, Nat.zero_le _⟩ dX4_place_36 (fun H locs hP hD hS => ?_)
      refine W.eq (g2 := F0 m 39 ls [.int r13]) rfl ?_
      refine lv_istore (lv' := [(4, .int r13), (3, .int (-1 : Int32)), (0, .ref (a 0)), (1, .int p1), (2, .int p2)]) hx hb dX4_place_39 hl (by decide) rfl (fun ls hl => ?_)
      refine lv_iconst (v := (0 : Int32)) hx hb dX4_place_41 (by decide) ?_
      refine lv_istore (lv' := [(5, .int (0 : Int32)), (4, .int r13), (3, .int (-1 : Int32)), (0, .ref (a 0)), (1, .int p1), (2, .int p2)]) hx hb dX4_place_42 hl (by decide) rfl (fun ls hl => ?_)
      have L_15 : ∀ (k_15 : Nat) (v5_15 : Int32) (v4_15 : Int32) (v3_15 : Int32) (m0_15 : MS), lp_X4_place_44 p1 p2 k_15 v5_15 v4_15 v3_15 m0_15 = some (r, m0') → ∀ (H : Heap) (locs : List Loc) (ls : Array Slot), va_P E.1 vwCl (wX4 E a m0_15) H → va_D A (wX4 E a m0_15) → va_S A s.heap H locs → lv_has ls 7 [(5, .int v5_15), (4, .int v4_15), (3, .int v3_15), (0, .ref (a 0)), (1, .int p1), (2, .int p2)] → W p l e (rmk 7 159) s m [.ref (a 0), .int p1, .int p2].toArray below meth c H locs 0 0 (MQ below (Qct E A (wX4 E a m0') (some (.int r))) [.ref (a 0), .int p1, .int p2].toArray s 0 0 A) (F0 m 44 ls []) := by
        intro k_15
        induction k_15 with
        | zero =>
          intro v5_15 v4_15 v3_15 m0_15 hf
          rw [lp_X4_place_44] at hf
          cases hf
        | succ k_15 ih_15 =>
          intro v5_15 v4_15 v3_15 m0_15 hf H locs ls hP hD hS hl
          rw [lp_X4_place_44] at hf
          refine lv_iload hx hb dX4_place_44 (lv_at hl 0 rfl) ?_
          refine lv_aload_n hx hb dX4_place_46 rfl (lv_at hl 3 rfl) ?_
          refine va_get (D := E.1) (ci := 4) (v := .ref (a 1)) (C := RX4) (T := TX4) (N := 18) hx hb hts inX4 hown hE.2.1 hP 0 rfl rfl 0 (by decide) (hE.w tw_598) (fun _ h9 => h9) rfl dX4_place_47 ?_
          refine lv_iconst (v := (0 : Int32)) hx hb dX4_place_50 (by decide) ?_
          obtain ⟨hg16, hf⟩ := gd_some hf
          refine va_iald hx hb hE.2.1 hP 1 0 rfl rfl hg16 dX4_place_51 ?_
          refine lv_icmp_ge (tgt := 95) hx hb dX4_place_52 (by decide) (fun c17 => ?_) (fun c17 => ?_)
          · have hf := ip c17 hf
            refine lv_iload_n hx hb dX4_place_95 rfl (lv_at hl 2 rfl) ?_
            refine lv_if_ge (tgt := 107) hx hb dX4_place_96 (by decide) (fun c18 => ?_) (fun c18 => ?_)
            · have hf := ip c18 hf
              refine lv_iload_n hx hb dX4_place_107 rfl (lv_at hl 2 rfl) ?_
              obtain ⟨rfl, rfl⟩ := so2 hf
              exact rt_i hx hb hr hlocks hP hD hS dX4_place_108
            · have hf := im c18 hf
              refine lv_aload_n hx hb dX4_place_99 rfl (lv_at hl 3 rfl) ?_
              refine lv_iconst (v := (3 : Int32)) hx hb dX4_place_100 (by decide) ?_
              obtain ⟨r20, m21, hc19, hf⟩ := bd2_some hf
              refine cV (X := List.take 0 (wX4 E a m0_15)) (Y := List.drop 12 (wX4 E a m0_15)) (w := (wX4 E a m0_15)) (w' := (wX4 E a m21)) (q0 := 0) lk_X4_92 hx hb hml hown hE hA (c_X4_finds l E a m0_15 (3 : Int32) r20 m21 hc19) rfl rfl hP hD hS rfl rfl ⟨rfl, rfl, Nat.le_of_ble_eq_true rfl, Nat.le_of_ble_eq_true rfl⟩ hl.1 (As := [.int (3 : Int32)]) (rest := []) rfl rfl (Nat.le_of_ble_eq_true rfl) ⟨Nat.zero_le _, Nat.zero_le _⟩ dX4_place_101 (fun H locs hP hD hS => ?_)
              refine W.eq (g2 := F0 m 104 ls [.int r20]) rfl ?_
              refine lv_goto (tgt := 108) hx hb dX4_place_104 (by decide) ?_
              obtain ⟨rfl, rfl⟩ := so2 hf
              exact rt_i hx hb hr hlocks hP hD hS dX4_place_108
          · have hf := im c17 hf
            refine lv_iload hx hb dX4_place_55 (lv_at hl 0 rfl) ?_
            refine lv_iload_n hx hb dX4_place_57 rfl (lv_at hl 4 rfl) ?_
            obtain ⟨x23, x24, m025, hq27, hf⟩ := bd3_some hf
            have J26 : ∀ (H : Heap) (locs : List Loc) (ls : Array Slot), va_P E.1 vwCl (wX4 E a m025) H → va_D A (wX4 E a m025) → va_S A s.heap H locs → lv_has ls 7 [(5, .int v5_15), (4, .int x23), (3, .int x24), (0, .ref (a 0)), (1, .int p1), (2, .int p2)] → W p l e (rmk 7 159) s m [.ref (a 0), .int p1, .int p2].toArray below meth c H locs 0 0 (MQ below (Qct E A (wX4 E a m0') (some (.int r))) [.ref (a 0), .int p1, .int p2].toArray s 0 0 A) (F0 m 89 ls []) := by
              intro H locs ls hP hD hS hl
              refine lv_iinc (v := (v5_15 + (1 : Int32))) (lv' := [(5, .int (v5_15 + (1 : Int32))), (4, .int x23), (3, .int x24), (0, .ref (a 0)), (1, .int p1), (2, .int p2)]) hx hb dX4_place_89 hl (k := 0) rfl rfl (by decide) rfl (fun ls hl => ?_)
              refine lv_goto (tgt := 44) hx hb dX4_place_92 (by decide) ?_
              exact ih_15 _ _ _ _ hf _ _ _ hP hD hS (lv_sub hl [0, 1, 2, 3, 4, 5] rfl)
            refine lv_icmp_eq (tgt := 89) hx hb dX4_place_58 (by decide) (fun c22 => ?_) (fun c22 => ?_)
            · have hq27 := ip c22 hq27
              obtain ⟨rfl, rfl, rfl⟩ := so3 hq27
              exact J26 _ _ _ hP hD hS (lv_sub hl [0, 1, 2, 3, 4, 5] rfl)
            · have hq27 := im c22 hq27
              refine lv_aload_n hx hb dX4_place_61 rfl (lv_at hl 3 rfl) ?_
              refine lv_iload_n hx hb dX4_place_62 rfl (lv_at hl 4 rfl) ?_
              refine lv_iload hx hb dX4_place_63 (lv_at hl 0 rfl) ?_
              obtain ⟨m29, hc28, hq27⟩ := bd1_some hq27
              refine cV (X := List.take 0 (wX4 E a m0_15)) (Y := List.drop 12 (wX4 E a m0_15)) (w := (wX4 E a m0_15)) (w' := (wX4 E a m29)) (q0 := 0) lk_X4_119 hx hb hml hown hE hA (c_X4_swaps l E a m0_15 p1 v5_15 m29 hc28) rfl rfl hP hD hS rfl rfl ⟨rfl, rfl, Nat.le_of_ble_eq_true rfl, Nat.le_of_ble_eq_true rfl⟩ hl.1 (As := [.int p1, .int v5_15]) (rest := []) rfl rfl (Nat.le_of_ble_eq_true rfl) ⟨Nat.zero_le _, Nat.zero_le _⟩ dX4_place_65 (fun H locs hP hD hS => ?_)
              refine W.eq (g2 := F0 m 68 ls []) rfl ?_
              refine lv_aload_n hx hb dX4_place_68 rfl (lv_at hl 3 rfl) ?_
              refine lv_iload_n hx hb dX4_place_69 rfl (lv_at hl 5 rfl) ?_
              obtain ⟨r31, m32, hc30, hq27⟩ := bd2_some hq27
              refine cV (X := List.take 0 (wX4 E a m29)) (Y := List.drop 12 (wX4 E a m29)) (w := (wX4 E a m29)) (w' := (wX4 E a m32)) (q0 := 0) lk_X4_146 hx hb hml hown hE hA (c_X4_houseBehind l E a m29 p2 r31 m32 hc30) rfl rfl hP hD hS rfl rfl ⟨rfl, rfl, Nat.le_of_ble_eq_true rfl, Nat.le_of_ble_eq_true rfl⟩ hl.1 (As := [.int p2]) (rest := []) rfl rfl (Nat.le_of_ble_eq_true rfl) ⟨Nat.zero_le _, Nat.zero_le _⟩ dX4_place_70 (fun H locs hP hD hS => ?_)
              refine W.eq (g2 := F0 m 73 ls [.int r31]) rfl ?_
              refine lv_istore (lv' := [(6, .int r31), (5, .int v5_15), (4, .int v4_15), (3, .int v3_15), (0, .ref (a 0)), (1, .int p1), (2, .int p2)]) hx hb dX4_place_73 hl (by decide) rfl (fun ls hl => ?_)
              refine lv_iload hx hb dX4_place_75 (lv_at hl 0 rfl) ?_
              refine lv_iload hx hb dX4_place_77 (lv_at hl 2 rfl) ?_
              refine lv_icmp_le (tgt := 89) hx hb dX4_place_79 (by decide) (fun c33 => ?_) (fun c33 => ?_)
              · have hq27 := ip c33 hq27
                obtain ⟨rfl, rfl, rfl⟩ := so3 hq27
                exact J26 _ _ _ hP hD hS (lv_sub hl [1, 2, 3, 4, 5, 6] rfl)
              · have hq27 := im c33 hq27
                refine lv_iload hx hb dX4_place_82 (lv_at hl 1 rfl) ?_
                refine lv_istore_n (lv' := [(3, .int v5_15), (6, .int r31), (5, .int v5_15), (4, .int v4_15), (0, .ref (a 0)), (1, .int p1), (2, .int p2)]) hx hb dX4_place_84 rfl hl (by decide) rfl (fun ls hl => ?_)
                refine lv_iload hx hb dX4_place_85 (lv_at hl 1 rfl) ?_
                refine lv_istore (lv' := [(4, .int r31), (3, .int v5_15), (6, .int r31), (5, .int v5_15), (0, .ref (a 0)), (1, .int p1), (2, .int p2)]) hx hb dX4_place_87 hl (by decide) rfl (fun ls hl => ?_)
                obtain ⟨rfl, rfl, rfl⟩ := so3 hq27
                exact J26 _ _ _ hP hD hS (lv_sub hl [3, 0, 1, 4, 5, 6] rfl)
      exact L_15 _ _ _ _ _ hf _ _ _ hP hD hS (lv_sub hl [0, 1, 2, 3, 4, 5] rfl)
    · have hf := ip c9 hf
      refine lv_aload_n hx hb dX4_place_15 rfl (lv_at hl 0 rfl) ?_
      refine lv_iconst (v := (0 : Int32)) hx hb dX4_place_16 (by decide) ?_
      obtain ⟨r35, m36, hc34, hf⟩ := bd2_some hf
      refine cV (X := List.take 0 (wX4 E a m0)) (Y := List.drop 12 (wX4 E a m0)) (w := (wX4 E a m0)) (w' := (wX4 E a m36)) (q0 := 0) lk_X4_92 hx hb hml hown hE hA (c_X4_finds l E a m0 (0 : Int32) r35 m36 hc34) rfl rfl hP hD hS rfl rfl ⟨rfl, rfl, Nat.le_of_ble_eq_true rfl, Nat.le_of_ble_eq_true rfl⟩ hl.1 (As := [.int (0 : Int32)]) (rest := []) rfl rfl (Nat.le_of_ble_eq_true rfl) ⟨Nat.zero_le _, Nat.zero_le _⟩ dX4_place_17 (fun H locs hP hD hS => ?_)
      refine W.eq (g2 := F0 m 20 ls [.int r35]) rfl ?_
      obtain ⟨rfl, rfl⟩ := so2 hf
      exact rt_i hx hb hr hlocks hP hD hS dX4_place_20
def lp_X4_kind_42 (p1 : Int32) (p2 : Int32) : Nat → (Int32) → (Int32) → (Int32) → (MS) → Option (Int32 × MS)
  | 0, _, _, _, _ => none
  | k_12 + 1, v5_12, v4_12, v3_12, m0_12 => if (6 : Int32) ≤ v5_12 then some (v3_12, m0_12) else bd1 (f_X4_sets m0_12 p1 (0 : Int32) v5_12) (fun m15 => bd1 (f_X4_whereNote m15 p1) (fun r17 => bd2 (f_X4_behind m15 p2 r17) (fun r19 m20 => jn2 (if r19 ≤ v4_12 then (v4_12, v3_12) else (r19, v5_12)) (fun x22 x23 => lp_X4_kind_42 p1 p2 k_12 (v5_12 + (1 : Int32)) x22 x23 m20))))
def f_X4_kind (m0 : MS) (p1 : Int32) (p2 : Int32) : Option (Int32 × MS) := bd1 (f_X4_isPerson m0 p1) (fun r2 => if (bI r2) = 0 then bd2 (f_X4_finds m0 (0 : Int32)) (fun r5 m6 => some (r5, m6)) else bd1 (f_X4_isShort p2) (fun r8 => if (bI r8) = 0 then bd2 (f_X4_finds m0 (0 : Int32)) (fun r27 m28 => some (r27, m28)) else bd1 (f_X4_copies_d_aside m0) (fun m11 => lp_X4_kind_42 p1 p2 FU (0 : Int32) (-10000 : Int32) (0 : Int32) m11)))
set_option maxHeartbeats 4000000 in
set_option maxRecDepth 100000 in
theorem c_X4_kind (l : Launch) (E : EV) (a : Nat → Nat) (m0 : MS) (p1 : Int32) (p2 : Int32)  (r : Int32) (m0' : MS) (hf : f_X4_kind m0 p1 p2 = some (r, m0')) : Ct l E yX4_kind cX4_kind 7 ((Option.some FieldType.int)) (rmk 7 160) [.ref (a 0), .int p1, .int p2] (wX4 E a m0) (wX4 E a m0') (some (.int r)) := by
  refine Ct.of (by decide) (Nat.le_of_ble_eq_true rfl) ?_
  intro p e s m below meth c A ls hC hP hD hl
  obtain ⟨hx, hb, hr, hml, hown, hlocks, hE, hA⟩ := hC
  have hts : ∀ w ∈ tbl, w.before [.ref (a 0), .int p1, .int p2].toArray s = true := fun w hw => hE.w hw
  have hS : va_S A s.heap s.heap [] := va_S.rf
  have hl : lv_has ls 7 [(0, .ref (a 0)), (1, .int p1), (2, .int p2)] := hl
  unfold f_X4_kind at hf
  refine lv_aload_n hx hb dX4_kind_0 rfl (lv_at hl 0 rfl) ?_
  refine lv_iload_n hx hb dX4_kind_1 rfl (lv_at hl 1 rfl) ?_
  obtain ⟨r2, hc1, hf⟩ := bd1_some hf
  refine cV (X := List.take 0 (wX4 E a m0)) (Y := List.drop 12 (wX4 E a m0)) (w := (wX4 E a m0)) (w' := (wX4 E a m0)) (q0 := 0) lk_X4_50 hx hb hml hown hE hA (c_X4_isPerson l E a m0 p1 r2 hc1) rfl rfl hP hD hS rfl rfl ⟨rfl, rfl, Nat.le_of_ble_eq_true rfl, Nat.le_of_ble_eq_true rfl⟩ hl.1 (As := [.int p1]) (rest := []) rfl rfl (Nat.le_of_ble_eq_true rfl) ⟨Nat.zero_le _, Nat.zero_le _⟩ dX4_kind_2 (fun H locs hP hD hS => ?_)
  refine W.eq (g2 := F0 m 5 ls [.int (bI r2)]) rfl ?_
  refine lv_if_eq (tgt := 15) hx hb dX4_kind_5 (by decide) (fun c3 => ?_) (fun c3 => ?_)
  · have hf := ip c3 hf
    refine lv_aload_n hx hb dX4_kind_15 rfl (lv_at hl 0 rfl) ?_
    refine lv_iconst (v := (0 : Int32)) hx hb dX4_kind_16 (by decide) ?_
    obtain ⟨r5, m6, hc4, hf⟩ := bd2_some hf
    refine cV (X := List.take 0 (wX4 E a m0)) (Y := List.drop 12 (wX4 E a m0)) (w := (wX4 E a m0)) (w' := (wX4 E a m6)) (q0 := 0) lk_X4_92 hx hb hml hown hE hA (c_X4_finds l E a m0 (0 : Int32) r5 m6 hc4) rfl rfl hP hD hS rfl rfl ⟨rfl, rfl, Nat.le_of_ble_eq_true rfl, Nat.le_of_ble_eq_true rfl⟩ hl.1 (As := [.int (0 : Int32)]) (rest := []) rfl rfl (Nat.le_of_ble_eq_true rfl) ⟨Nat.zero_le _, Nat.zero_le _⟩ dX4_kind_17 (fun H locs hP hD hS => ?_)
    refine W.eq (g2 := F0 m 20 ls [.int r5]) rfl ?_
    obtain ⟨rfl, rfl⟩ := so2 hf
    exact rt_i hx hb hr hlocks hP hD hS dX4_kind_20
  · have hf := im c3 hf
    refine lv_iload_n hx hb dX4_kind_8 rfl (lv_at hl 2 rfl) ?_
    obtain ⟨r8, hc7, hf⟩ := bd1_some hf
    refine cS (X := List.take 0 (wX4 E a m0)) (Y := List.drop 0 (wX4 E a m0)) (w := (wX4 E a m0)) (w' := (wX4 E a m0)) lk_X4_149 hx hb hml hown hE hA (c_X4_isShort l E p2 r8 hc7) rfl rfl hP hD hS ⟨rfl, rfl, Nat.le_of_ble_eq_true rfl, Nat.le_of_ble_eq_true rfl⟩ hl.1 (As := [.int p2]) (rest := []) rfl rfl (Nat.le_of_ble_eq_true rfl) ⟨Nat.zero_le _, Nat.zero_le _⟩ dX4_kind_9 (fun H locs hP hD hS => ?_)
    refine W.eq (g2 := F0 m 12 ls [.int (bI r8)]) rfl ?_
    refine lv_if_ne (tgt := 21) hx hb dX4_kind_12 (by decide) (fun c9 => ?_) (fun c9 => ?_)
    · have hf := im c9 hf
      refine lv_aload_n hx hb dX4_kind_21 rfl (lv_at hl 0 rfl) ?_
      refine va_get (D := E.1) (ci := 4) (v := .ref (a 1)) (C := RX4) (T := TX4) (N := 18) hx hb hts inX4 hown hE.2.1 hP 0 rfl rfl 0 (by decide) (hE.w tw_598) (fun _ h9 => h9) rfl dX4_kind_22 ?_
      refine lv_aload_n hx hb dX4_kind_25 rfl (lv_at hl 0 rfl) ?_
      refine va_get (D := E.1) (ci := 4) (v := .ref (a 3)) (C := RX4) (T := TX4) (N := 18) hx hb hts inX4 hown hE.2.1 hP 0 rfl rfl 2 (by decide) (hE.w tw_600) (fun _ h9 => h9) rfl dX4_kind_26 ?_
      obtain ⟨m11, hc10, hf⟩ := bd1_some hf
      refine cS (X := List.take 0 (wX4 E a m0)) (Y := List.drop 12 (wX4 E a m0)) (w := (wX4 E a m0)) (w' := (wX4 E a m11)) lk_X4_129 hx hb hml hown hE hA (c_X4_copies_d_aside l E a m0 m11 hc10) rfl rfl hP hD hS ⟨rfl, rfl, Nat.le_of_ble_eq_true rfl, Nat.le_of_ble_eq_true rfl⟩ hl.1 (As := [.ref (a 1), .ref (a 3)]) (rest := []) rfl rfl (Nat.le_of_ble_eq_true rfl) ⟨Nat.zero_le _, Nat.zero_le _⟩ dX4_kind_29 (fun H locs hP hD hS => ?_)
      refine W.eq (g2 := F0 m 32 ls []) rfl ?_
      refine lv_iconst (v := (0 : Int32)) hx hb dX4_kind_32 (by decide) ?_
      refine lv_istore_n (lv' := [(3, .int (0 : Int32)), (0, .ref (a 0)), (1, .int p1), (2, .int p2)]) hx hb dX4_kind_33 rfl hl (by decide) rfl (fun ls hl => ?_)
      refine lv_sipush (v := (-10000 : Int32)) hx hb dX4_kind_34 (by decide) ?_
      refine lv_istore (lv' := [(4, .int (-10000 : Int32)), (3, .int (0 : Int32)), (0, .ref (a 0)), (1, .int p1), (2, .int p2)]) hx hb dX4_kind_37 hl (by decide) rfl (fun ls hl => ?_)
      refine lv_iconst (v := (0 : Int32)) hx hb dX4_kind_39 (by decide) ?_
      refine lv_istore (lv' := [(5, .int (0 : Int32)), (4, .int (-10000 : Int32)), (3, .int (0 : Int32)), (0, .ref (a 0)), (1, .int p1), (2, .int p2)]) hx hb dX4_kind_40 hl (by decide) rfl (fun ls hl => ?_)
      have L_12 : ∀ (k_12 : Nat) (v5_12 : Int32) (v4_12 : Int32) (v3_12 : Int32) (m0_12 : MS), lp_X4_kind_42 p1 p2 k_12 v5_12 v4_12 v3_12 m0_12 = some (r, m0') → ∀ (H : Heap) (locs : List Loc) (ls : Array Slot), va_P E.1 vwCl (wX4 E a m0_12) H → va_D A (wX4 E a m0_12) → va_S A s.heap H locs → lv_has ls 7 [(5, .int v5_12), (4, .int v4_12), (3, .int v3_12), (0, .ref (a 0)), (1, .int p1), (2, .int p2)] → W p l e (rmk 7 160) s m [.ref (a 0), .int p1, .int p2].toArray below meth c H locs 0 0 (MQ below (Qct E A (wX4 E a m0') (some (.int r))) [.ref (a 0), .int p1, .int p2].toArray s 0 0 A) (F0 m 42 ls []) := by
        intro k_12
        induction k_12 with
        | zero =>
          intro v5_12 v4_12 v3_12 m0_12 hf
          rw [lp_X4_kind_42] at hf
          cases hf
        | succ k_12 ih_12 =>
          intro v5_12 v4_12 v3_12 m0_12 hf H locs ls hP hD hS hl
          rw [lp_X4_kind_42] at hf
          refine lv_iload hx hb dX4_kind_42 (lv_at hl 0 rfl) ?_
          refine lv_bipush (v := (6 : Int32)) hx hb dX4_kind_44 (by decide) ?_
          refine lv_icmp_ge (tgt := 89) hx hb dX4_kind_46 (by decide) (fun c13 => ?_) (fun c13 => ?_)
          · have hf := ip c13 hf
            refine lv_iload_n hx hb dX4_kind_89 rfl (lv_at hl 2 rfl) ?_
            obtain ⟨rfl, rfl⟩ := so2 hf
            exact rt_i hx hb hr hlocks hP hD hS dX4_kind_90
          · have hf := im c13 hf
            refine lv_aload_n hx hb dX4_kind_49 rfl (lv_at hl 3 rfl) ?_
            refine lv_iload_n hx hb dX4_kind_50 rfl (lv_at hl 4 rfl) ?_
            refine lv_iconst (v := (0 : Int32)) hx hb dX4_kind_51 (by decide) ?_
            refine lv_iload hx hb dX4_kind_52 (lv_at hl 0 rfl) ?_
            obtain ⟨m15, hc14, hf⟩ := bd1_some hf
            refine cV (X := List.take 0 (wX4 E a m0_12)) (Y := List.drop 12 (wX4 E a m0_12)) (w := (wX4 E a m0_12)) (w' := (wX4 E a m15)) (q0 := 0) lk_X4_73 hx hb hml hown hE hA (c_X4_sets l E a m0_12 p1 (0 : Int32) v5_12 m15 hc14) rfl rfl hP hD hS rfl rfl ⟨rfl, rfl, Nat.le_of_ble_eq_true rfl, Nat.le_of_ble_eq_true rfl⟩ hl.1 (As := [.int p1, .int (0 : Int32), .int v5_12]) (rest := []) rfl rfl (Nat.le_of_ble_eq_true rfl) ⟨Nat.zero_le _, Nat.zero_le _⟩ dX4_kind_54 (fun H locs hP hD hS => ?_)
            refine W.eq (g2 := F0 m 57 ls []) rfl ?_
            refine lv_aload_n hx hb dX4_kind_57 rfl (lv_at hl 3 rfl) ?_
            refine lv_iload_n hx hb dX4_kind_58 rfl (lv_at hl 5 rfl) ?_
            refine lv_aload_n hx hb dX4_kind_59 rfl (lv_at hl 3 rfl) ?_
            refine lv_iload_n hx hb dX4_kind_60 rfl (lv_at hl 4 rfl) ?_
            obtain ⟨r17, hc16, hf⟩ := bd1_some hf
            refine cV (X := List.take 0 (wX4 E a m15)) (Y := List.drop 12 (wX4 E a m15)) (w := (wX4 E a m15)) (w' := (wX4 E a m15)) (q0 := 0) lk_X4_140 hx hb hml hown hE hA (c_X4_whereNote l E a m15 p1 r17 hc16) rfl rfl hP hD hS rfl rfl ⟨rfl, rfl, Nat.le_of_ble_eq_true rfl, Nat.le_of_ble_eq_true rfl⟩ hl.1 (As := [.int p1]) (rest := [.int p2, .ref (a 0)]) rfl rfl (Nat.le_of_ble_eq_true rfl) ⟨Nat.zero_le _, Nat.zero_le _⟩ dX4_kind_61 (fun H locs hP hD hS => ?_)
            refine W.eq (g2 := F0 m 64 ls [.int r17, .int p2, .ref (a 0)]) rfl ?_
            obtain ⟨r19, m20, hc18, hf⟩ := bd2_some hf
            refine cV (X := List.take 0 (wX4 E a m15)) (Y := List.drop 12 (wX4 E a m15)) (w := (wX4 E a m15)) (w' := (wX4 E a m20)) (q0 := 0) lk_X4_143 hx hb hml hown hE hA (c_X4_behind l E a m15 p2 r17 r19 m20 hc18) rfl rfl hP hD hS rfl rfl ⟨rfl, rfl, Nat.le_of_ble_eq_true rfl, Nat.le_of_ble_eq_true rfl⟩ hl.1 (As := [.int p2, .int r17]) (rest := []) rfl rfl (Nat.le_of_ble_eq_true rfl) ⟨Nat.zero_le _, Nat.zero_le _⟩ dX4_kind_64 (fun H locs hP hD hS => ?_)
            refine W.eq (g2 := F0 m 67 ls [.int r19]) rfl ?_
            refine lv_istore (lv' := [(6, .int r19), (5, .int v5_12), (4, .int v4_12), (3, .int v3_12), (0, .ref (a 0)), (1, .int p1), (2, .int p2)]) hx hb dX4_kind_67 hl (by decide) rfl (fun ls hl => ?_)
            refine lv_iload hx hb dX4_kind_69 (lv_at hl 0 rfl) ?_
            refine lv_iload hx hb dX4_kind_71 (lv_at hl 2 rfl) ?_
            obtain ⟨x22, x23, hq25, hf⟩ := jn2_some hf
            have J24 : ∀ (H : Heap) (locs : List Loc) (ls : Array Slot), va_P E.1 vwCl (wX4 E a m20) H → va_D A (wX4 E a m20) → va_S A s.heap H locs → lv_has ls 7 [(6, .int r19), (5, .int v5_12), (4, .int x22), (3, .int x23), (0, .ref (a 0)), (1, .int p1), (2, .int p2)] → W p l e (rmk 7 160) s m [.ref (a 0), .int p1, .int p2].toArray below meth c H locs 0 0 (MQ below (Qct E A (wX4 E a m0') (some (.int r))) [.ref (a 0), .int p1, .int p2].toArray s 0 0 A) (F0 m 83 ls []) := by
              intro H locs ls hP hD hS hl
              refine lv_iinc (v := (v5_12 + (1 : Int32))) (lv' := [(5, .int (v5_12 + (1 : Int32))), (6, .int r19), (4, .int x22), (3, .int x23), (0, .ref (a 0)), (1, .int p1), (2, .int p2)]) hx hb dX4_kind_83 hl (k := 1) rfl rfl (by decide) rfl (fun ls hl => ?_)
              refine lv_goto (tgt := 42) hx hb dX4_kind_86 (by decide) ?_
              exact ih_12 _ _ _ _ hf _ _ _ hP hD hS (lv_sub hl [0, 2, 3, 4, 5, 6] rfl)
            refine lv_icmp_le (tgt := 83) hx hb dX4_kind_73 (by decide) (fun c21 => ?_) (fun c21 => ?_)
            · have hq25 := ie c21 hq25
              obtain ⟨rfl, rfl⟩ := pj2 hq25
              exact J24 _ _ _ hP hD hS (lv_sub hl [0, 1, 2, 3, 4, 5, 6] rfl)
            · have hq25 := ien c21 hq25
              refine lv_iload hx hb dX4_kind_76 (lv_at hl 1 rfl) ?_
              refine lv_istore_n (lv' := [(3, .int v5_12), (6, .int r19), (5, .int v5_12), (4, .int v4_12), (0, .ref (a 0)), (1, .int p1), (2, .int p2)]) hx hb dX4_kind_78 rfl hl (by decide) rfl (fun ls hl => ?_)
              refine lv_iload hx hb dX4_kind_79 (lv_at hl 1 rfl) ?_
              refine lv_istore (lv' := [(4, .int r19), (3, .int v5_12), (6, .int r19), (5, .int v5_12), (0, .ref (a 0)), (1, .int p1), (2, .int p2)]) hx hb dX4_kind_81 hl (by decide) rfl (fun ls hl => ?_)
              obtain ⟨rfl, rfl⟩ := pj2 hq25
              exact J24 _ _ _ hP hD hS (lv_sub hl [2, 3, 0, 1, 4, 5, 6] rfl)
      exact L_12 _ _ _ _ _ hf _ _ _ hP hD hS (lv_sub hl [0, 1, 2, 3, 4, 5] rfl)
    · have hf := ip c9 hf
      refine lv_aload_n hx hb dX4_kind_15 rfl (lv_at hl 0 rfl) ?_
      refine lv_iconst (v := (0 : Int32)) hx hb dX4_kind_16 (by decide) ?_
      obtain ⟨r27, m28, hc26, hf⟩ := bd2_some hf
      refine cV (X := List.take 0 (wX4 E a m0)) (Y := List.drop 12 (wX4 E a m0)) (w := (wX4 E a m0)) (w' := (wX4 E a m28)) (q0 := 0) lk_X4_92 hx hb hml hown hE hA (c_X4_finds l E a m0 (0 : Int32) r27 m28 hc26) rfl rfl hP hD hS rfl rfl ⟨rfl, rfl, Nat.le_of_ble_eq_true rfl, Nat.le_of_ble_eq_true rfl⟩ hl.1 (As := [.int (0 : Int32)]) (rest := []) rfl rfl (Nat.le_of_ble_eq_true rfl) ⟨Nat.zero_le _, Nat.zero_le _⟩ dX4_kind_17 (fun H locs hP hD hS => ?_)
      refine W.eq (g2 := F0 m 20 ls [.int r27]) rfl ?_
      obtain ⟨rfl, rfl⟩ := so2 hf
      exact rt_i hx hb hr hlocks hP hD hS dX4_kind_20
def lp_X4_fresh_49 (p1 : Int32) (p2 : Int32) (p3 : Int32) : Nat → (Int32) → (MS) → Option (Int32 × MS)
  | 0, _, _ => none
  | k_18 + 1, v4_18, m0_18 => if (99 : Int32) < v4_18 then bd2 (f_X4_finds m0_18 (3 : Int32)) (fun r21 m22 => some (r21, m22)) else bd1 (f_X4_sets m0_18 p1 (1 : Int32) v4_18) (fun m24 => bd1 (f_X4_whereNote m24 p1) (fun r26 => bd2 (f_X4_behind m24 p2 r26) (fun r28 m29 => if r28 < p3 then lp_X4_fresh_49 p1 p2 p3 k_18 (v4_18 + (1 : Int32)) m29 else some (v4_18, m29))))
def f_X4_fresh (m0 : MS) (p1 : Int32) (p2 : Int32) (p3 : Int32) : Option (Int32 × MS) := bd1 (f_X4_isPerson m0 p1) (fun r2 => if (bI r2) = 0 then bd2 (f_X4_finds m0 (0 : Int32)) (fun r5 m6 => some (r5, m6)) else bd1 (f_X4_isShort p2) (fun r8 => if (bI r8) = 0 then bd2 (f_X4_finds m0 (0 : Int32)) (fun r11 m12 => some (r11, m12)) else bd1 (f_X4_in (p3.toInt64) (-9999 : Int64) (9999 : Int64)) (fun r14 => if (bI r14) = 0 then bd2 (f_X4_finds m0 (0 : Int32)) (fun r32 m33 => some (r32, m33)) else bd1 (f_X4_copies_d_aside m0) (fun m17 => lp_X4_fresh_49 p1 p2 p3 FU (0 : Int32) m17))))
set_option maxHeartbeats 4000000 in
set_option maxRecDepth 100000 in
theorem c_X4_fresh (l : Launch) (E : EV) (a : Nat → Nat) (m0 : MS) (p1 : Int32) (p2 : Int32) (p3 : Int32)  (r : Int32) (m0' : MS) (hf : f_X4_fresh m0 p1 p2 p3 = some (r, m0')) : Ct l E yX4_fresh cX4_fresh 5 ((Option.some FieldType.int)) (rmk 7 160) [.ref (a 0), .int p1, .int p2, .int p3] (wX4 E a m0) (wX4 E a m0') (some (.int r)) := by
  refine Ct.of (by decide) (Nat.le_of_ble_eq_true rfl) ?_
  intro p e s m below meth c A ls hC hP hD hl
  obtain ⟨hx, hb, hr, hml, hown, hlocks, hE, hA⟩ := hC
  have hts : ∀ w ∈ tbl, w.before [.ref (a 0), .int p1, .int p2, .int p3].toArray s = true := fun w hw => hE.w hw
  have hS : va_S A s.heap s.heap [] := va_S.rf
  have hl : lv_has ls 5 [(0, .ref (a 0)), (1, .int p1), (2, .int p2), (3, .int p3)] := hl
  unfold f_X4_fresh at hf
  refine lv_aload_n hx hb dX4_fresh_0 rfl (lv_at hl 0 rfl) ?_
  refine lv_iload_n hx hb dX4_fresh_1 rfl (lv_at hl 1 rfl) ?_
  obtain ⟨r2, hc1, hf⟩ := bd1_some hf
  refine cV (X := List.take 0 (wX4 E a m0)) (Y := List.drop 12 (wX4 E a m0)) (w := (wX4 E a m0)) (w' := (wX4 E a m0)) (q0 := 0) lk_X4_50 hx hb hml hown hE hA (c_X4_isPerson l E a m0 p1 r2 hc1) rfl rfl hP hD hS rfl rfl ⟨rfl, rfl, Nat.le_of_ble_eq_true rfl, Nat.le_of_ble_eq_true rfl⟩ hl.1 (As := [.int p1]) (rest := []) rfl rfl (Nat.le_of_ble_eq_true rfl) ⟨Nat.zero_le _, Nat.zero_le _⟩ dX4_fresh_2 (fun H locs hP hD hS => ?_)
  refine W.eq (g2 := F0 m 5 ls [.int (bI r2)]) rfl ?_
  refine lv_if_eq (tgt := 29) hx hb dX4_fresh_5 (by decide) (fun c3 => ?_) (fun c3 => ?_)
  · have hf := ip c3 hf
    refine lv_aload_n hx hb dX4_fresh_29 rfl (lv_at hl 0 rfl) ?_
    refine lv_iconst (v := (0 : Int32)) hx hb dX4_fresh_30 (by decide) ?_
    obtain ⟨r5, m6, hc4, hf⟩ := bd2_some hf
    refine cV (X := List.take 0 (wX4 E a m0)) (Y := List.drop 12 (wX4 E a m0)) (w := (wX4 E a m0)) (w' := (wX4 E a m6)) (q0 := 0) lk_X4_92 hx hb hml hown hE hA (c_X4_finds l E a m0 (0 : Int32) r5 m6 hc4) rfl rfl hP hD hS rfl rfl ⟨rfl, rfl, Nat.le_of_ble_eq_true rfl, Nat.le_of_ble_eq_true rfl⟩ hl.1 (As := [.int (0 : Int32)]) (rest := []) rfl rfl (Nat.le_of_ble_eq_true rfl) ⟨Nat.zero_le _, Nat.zero_le _⟩ dX4_fresh_31 (fun H locs hP hD hS => ?_)
    refine W.eq (g2 := F0 m 34 ls [.int r5]) rfl ?_
    obtain ⟨rfl, rfl⟩ := so2 hf
    exact rt_i hx hb hr hlocks hP hD hS dX4_fresh_34
  · have hf := im c3 hf
    refine lv_iload_n hx hb dX4_fresh_8 rfl (lv_at hl 2 rfl) ?_
    obtain ⟨r8, hc7, hf⟩ := bd1_some hf
    refine cS (X := List.take 0 (wX4 E a m0)) (Y := List.drop 0 (wX4 E a m0)) (w := (wX4 E a m0)) (w' := (wX4 E a m0)) lk_X4_149 hx hb hml hown hE hA (c_X4_isShort l E p2 r8 hc7) rfl rfl hP hD hS ⟨rfl, rfl, Nat.le_of_ble_eq_true rfl, Nat.le_of_ble_eq_true rfl⟩ hl.1 (As := [.int p2]) (rest := []) rfl rfl (Nat.le_of_ble_eq_true rfl) ⟨Nat.zero_le _, Nat.zero_le _⟩ dX4_fresh_9 (fun H locs hP hD hS => ?_)
    refine W.eq (g2 := F0 m 12 ls [.int (bI r8)]) rfl ?_
    refine lv_if_eq (tgt := 29) hx hb dX4_fresh_12 (by decide) (fun c9 => ?_) (fun c9 => ?_)
    · have hf := ip c9 hf
      refine lv_aload_n hx hb dX4_fresh_29 rfl (lv_at hl 0 rfl) ?_
      refine lv_iconst (v := (0 : Int32)) hx hb dX4_fresh_30 (by decide) ?_
      obtain ⟨r11, m12, hc10, hf⟩ := bd2_some hf
      refine cV (X := List.take 0 (wX4 E a m0)) (Y := List.drop 12 (wX4 E a m0)) (w := (wX4 E a m0)) (w' := (wX4 E a m12)) (q0 := 0) lk_X4_92 hx hb hml hown hE hA (c_X4_finds l E a m0 (0 : Int32) r11 m12 hc10) rfl rfl hP hD hS rfl rfl ⟨rfl, rfl, Nat.le_of_ble_eq_true rfl, Nat.le_of_ble_eq_true rfl⟩ hl.1 (As := [.int (0 : Int32)]) (rest := []) rfl rfl (Nat.le_of_ble_eq_true rfl) ⟨Nat.zero_le _, Nat.zero_le _⟩ dX4_fresh_31 (fun H locs hP hD hS => ?_)
      refine W.eq (g2 := F0 m 34 ls [.int r11]) rfl ?_
      obtain ⟨rfl, rfl⟩ := so2 hf
      exact rt_i hx hb hr hlocks hP hD hS dX4_fresh_34
    · have hf := im c9 hf
      refine lv_iload_n hx hb dX4_fresh_15 rfl (lv_at hl 3 rfl) ?_
      refine lv_i2l (v := (p3.toInt64)) hx hb dX4_fresh_16 rfl ?_
      refine lv_ldc2 (v := (-9999 : Int64)) hx hb hown (hE.w tw_743) dX4_fresh_17 ?_
      refine lv_ldc2 (v := (9999 : Int64)) hx hb hown (hE.w tw_744) dX4_fresh_20 ?_
      obtain ⟨r14, hc13, hf⟩ := bd1_some hf
      refine cS (X := List.take 0 (wX4 E a m0)) (Y := List.drop 0 (wX4 E a m0)) (w := (wX4 E a m0)) (w' := (wX4 E a m0)) lk_X4_46 hx hb hml hown hE hA (c_X4_in l E (p3.toInt64) (-9999 : Int64) (9999 : Int64) r14 hc13) rfl rfl hP hD hS ⟨rfl, rfl, Nat.le_of_ble_eq_true rfl, Nat.le_of_ble_eq_true rfl⟩ hl.1 (As := [.long (p3.toInt64), .long (-9999 : Int64), .long (9999 : Int64)]) (rest := []) rfl rfl (Nat.le_of_ble_eq_true rfl) ⟨Nat.zero_le _, Nat.zero_le _⟩ dX4_fresh_23 (fun H locs hP hD hS => ?_)
      refine W.eq (g2 := F0 m 26 ls [.int (bI r14)]) rfl ?_
      refine lv_if_ne (tgt := 35) hx hb dX4_fresh_26 (by decide) (fun c15 => ?_) (fun c15 => ?_)
      · have hf := im c15 hf
        refine lv_aload_n hx hb dX4_fresh_35 rfl (lv_at hl 0 rfl) ?_
        refine va_get (D := E.1) (ci := 4) (v := .ref (a 1)) (C := RX4) (T := TX4) (N := 18) hx hb hts inX4 hown hE.2.1 hP 0 rfl rfl 0 (by decide) (hE.w tw_598) (fun _ h9 => h9) rfl dX4_fresh_36 ?_
        refine lv_aload_n hx hb dX4_fresh_39 rfl (lv_at hl 0 rfl) ?_
        refine va_get (D := E.1) (ci := 4) (v := .ref (a 3)) (C := RX4) (T := TX4) (N := 18) hx hb hts inX4 hown hE.2.1 hP 0 rfl rfl 2 (by decide) (hE.w tw_600) (fun _ h9 => h9) rfl dX4_fresh_40 ?_
        obtain ⟨m17, hc16, hf⟩ := bd1_some hf
        refine cS (X := List.take 0 (wX4 E a m0)) (Y := List.drop 12 (wX4 E a m0)) (w := (wX4 E a m0)) (w' := (wX4 E a m17)) lk_X4_129 hx hb hml hown hE hA (c_X4_copies_d_aside l E a m0 m17 hc16) rfl rfl hP hD hS ⟨rfl, rfl, Nat.le_of_ble_eq_true rfl, Nat.le_of_ble_eq_true rfl⟩ hl.1 (As := [.ref (a 1), .ref (a 3)]) (rest := []) rfl rfl (Nat.le_of_ble_eq_true rfl) ⟨Nat.zero_le _, Nat.zero_le _⟩ dX4_fresh_43 (fun H locs hP hD hS => ?_)
        refine W.eq (g2 := F0 m 46 ls []) rfl ?_
        refine lv_iconst (v := (0 : Int32)) hx hb dX4_fresh_46 (by decide) ?_
        refine lv_istore (lv' := [(4, .int (0 : Int32)), (0, .ref (a 0)), (1, .int p1), (2, .int p2), (3, .int p3)]) hx hb dX4_fresh_47 hl (by decide) rfl (fun ls hl => ?_)
        have L_18 : ∀ (k_18 : Nat) (v4_18 : Int32) (m0_18 : MS), lp_X4_fresh_49 p1 p2 p3 k_18 v4_18 m0_18 = some (r, m0') → ∀ (H : Heap) (locs : List Loc) (ls : Array Slot), va_P E.1 vwCl (wX4 E a m0_18) H → va_D A (wX4 E a m0_18) → va_S A s.heap H locs → lv_has ls 5 [(4, .int v4_18), (0, .ref (a 0)), (1, .int p1), (2, .int p2), (3, .int p3)] → W p l e (rmk 7 160) s m [.ref (a 0), .int p1, .int p2, .int p3].toArray below meth c H locs 0 0 (MQ below (Qct E A (wX4 E a m0') (some (.int r))) [.ref (a 0), .int p1, .int p2, .int p3].toArray s 0 0 A) (F0 m 49 ls []) := by
          intro k_18
          induction k_18 with
          | zero =>
            intro v4_18 m0_18 hf
            rw [lp_X4_fresh_49] at hf
            cases hf
          | succ k_18 ih_18 =>
            intro v4_18 m0_18 hf H locs ls hP hD hS hl
            rw [lp_X4_fresh_49] at hf
            refine lv_iload hx hb dX4_fresh_49 (lv_at hl 0 rfl) ?_
            refine lv_bipush (v := (99 : Int32)) hx hb dX4_fresh_51 (by decide) ?_
            refine lv_icmp_gt (tgt := 87) hx hb dX4_fresh_53 (by decide) (fun c19 => ?_) (fun c19 => ?_)
            · have hf := ip c19 hf
              refine lv_aload_n hx hb dX4_fresh_87 rfl (lv_at hl 1 rfl) ?_
              refine lv_iconst (v := (3 : Int32)) hx hb dX4_fresh_88 (by decide) ?_
              obtain ⟨r21, m22, hc20, hf⟩ := bd2_some hf
              refine cV (X := List.take 0 (wX4 E a m0_18)) (Y := List.drop 12 (wX4 E a m0_18)) (w := (wX4 E a m0_18)) (w' := (wX4 E a m22)) (q0 := 0) lk_X4_92 hx hb hml hown hE hA (c_X4_finds l E a m0_18 (3 : Int32) r21 m22 hc20) rfl rfl hP hD hS rfl rfl ⟨rfl, rfl, Nat.le_of_ble_eq_true rfl, Nat.le_of_ble_eq_true rfl⟩ hl.1 (As := [.int (3 : Int32)]) (rest := []) rfl rfl (Nat.le_of_ble_eq_true rfl) ⟨Nat.zero_le _, Nat.zero_le _⟩ dX4_fresh_89 (fun H locs hP hD hS => ?_)
              refine W.eq (g2 := F0 m 92 ls [.int r21]) rfl ?_
              obtain ⟨rfl, rfl⟩ := so2 hf
              exact rt_i hx hb hr hlocks hP hD hS dX4_fresh_92
            · have hf := im c19 hf
              refine lv_aload_n hx hb dX4_fresh_56 rfl (lv_at hl 1 rfl) ?_
              refine lv_iload_n hx hb dX4_fresh_57 rfl (lv_at hl 2 rfl) ?_
              refine lv_iconst (v := (1 : Int32)) hx hb dX4_fresh_58 (by decide) ?_
              refine lv_iload hx hb dX4_fresh_59 (lv_at hl 0 rfl) ?_
              obtain ⟨m24, hc23, hf⟩ := bd1_some hf
              refine cV (X := List.take 0 (wX4 E a m0_18)) (Y := List.drop 12 (wX4 E a m0_18)) (w := (wX4 E a m0_18)) (w' := (wX4 E a m24)) (q0 := 0) lk_X4_73 hx hb hml hown hE hA (c_X4_sets l E a m0_18 p1 (1 : Int32) v4_18 m24 hc23) rfl rfl hP hD hS rfl rfl ⟨rfl, rfl, Nat.le_of_ble_eq_true rfl, Nat.le_of_ble_eq_true rfl⟩ hl.1 (As := [.int p1, .int (1 : Int32), .int v4_18]) (rest := []) rfl rfl (Nat.le_of_ble_eq_true rfl) ⟨Nat.zero_le _, Nat.zero_le _⟩ dX4_fresh_61 (fun H locs hP hD hS => ?_)
              refine W.eq (g2 := F0 m 64 ls []) rfl ?_
              refine lv_aload_n hx hb dX4_fresh_64 rfl (lv_at hl 1 rfl) ?_
              refine lv_iload_n hx hb dX4_fresh_65 rfl (lv_at hl 3 rfl) ?_
              refine lv_aload_n hx hb dX4_fresh_66 rfl (lv_at hl 1 rfl) ?_
              refine lv_iload_n hx hb dX4_fresh_67 rfl (lv_at hl 2 rfl) ?_
              obtain ⟨r26, hc25, hf⟩ := bd1_some hf
              refine cV (X := List.take 0 (wX4 E a m24)) (Y := List.drop 12 (wX4 E a m24)) (w := (wX4 E a m24)) (w' := (wX4 E a m24)) (q0 := 0) lk_X4_140 hx hb hml hown hE hA (c_X4_whereNote l E a m24 p1 r26 hc25) rfl rfl hP hD hS rfl rfl ⟨rfl, rfl, Nat.le_of_ble_eq_true rfl, Nat.le_of_ble_eq_true rfl⟩ hl.1 (As := [.int p1]) (rest := [.int p2, .ref (a 0)]) rfl rfl (Nat.le_of_ble_eq_true rfl) ⟨Nat.zero_le _, Nat.zero_le _⟩ dX4_fresh_68 (fun H locs hP hD hS => ?_)
              refine W.eq (g2 := F0 m 71 ls [.int r26, .int p2, .ref (a 0)]) rfl ?_
              obtain ⟨r28, m29, hc27, hf⟩ := bd2_some hf
              refine cV (X := List.take 0 (wX4 E a m24)) (Y := List.drop 12 (wX4 E a m24)) (w := (wX4 E a m24)) (w' := (wX4 E a m29)) (q0 := 0) lk_X4_143 hx hb hml hown hE hA (c_X4_behind l E a m24 p2 r26 r28 m29 hc27) rfl rfl hP hD hS rfl rfl ⟨rfl, rfl, Nat.le_of_ble_eq_true rfl, Nat.le_of_ble_eq_true rfl⟩ hl.1 (As := [.int p2, .int r26]) (rest := []) rfl rfl (Nat.le_of_ble_eq_true rfl) ⟨Nat.zero_le _, Nat.zero_le _⟩ dX4_fresh_71 (fun H locs hP hD hS => ?_)
              refine W.eq (g2 := F0 m 74 ls [.int r28]) rfl ?_
              refine lv_iload_n hx hb dX4_fresh_74 rfl (lv_at hl 4 rfl) ?_
              refine lv_icmp_lt (tgt := 81) hx hb dX4_fresh_75 (by decide) (fun c30 => ?_) (fun c30 => ?_)
              · have hf := ip c30 hf
                refine lv_iinc (v := (v4_18 + (1 : Int32))) (lv' := [(4, .int (v4_18 + (1 : Int32))), (0, .ref (a 0)), (1, .int p1), (2, .int p2), (3, .int p3)]) hx hb dX4_fresh_81 hl (k := 0) rfl rfl (by decide) rfl (fun ls hl => ?_)
                refine lv_goto (tgt := 49) hx hb dX4_fresh_84 (by decide) ?_
                exact ih_18 _ _ hf _ _ _ hP hD hS (lv_sub hl [0, 1, 2, 3, 4] rfl)
              · have hf := im c30 hf
                refine lv_iload hx hb dX4_fresh_78 (lv_at hl 0 rfl) ?_
                obtain ⟨rfl, rfl⟩ := so2 hf
                exact rt_i hx hb hr hlocks hP hD hS dX4_fresh_80
        exact L_18 _ _ _ hf _ _ _ hP hD hS (lv_sub hl [0, 1, 2, 3, 4] rfl)
      · have hf := ip c15 hf
        refine lv_aload_n hx hb dX4_fresh_29 rfl (lv_at hl 0 rfl) ?_
        refine lv_iconst (v := (0 : Int32)) hx hb dX4_fresh_30 (by decide) ?_
        obtain ⟨r32, m33, hc31, hf⟩ := bd2_some hf
        refine cV (X := List.take 0 (wX4 E a m0)) (Y := List.drop 12 (wX4 E a m0)) (w := (wX4 E a m0)) (w' := (wX4 E a m33)) (q0 := 0) lk_X4_92 hx hb hml hown hE hA (c_X4_finds l E a m0 (0 : Int32) r32 m33 hc31) rfl rfl hP hD hS rfl rfl ⟨rfl, rfl, Nat.le_of_ble_eq_true rfl, Nat.le_of_ble_eq_true rfl⟩ hl.1 (As := [.int (0 : Int32)]) (rest := []) rfl rfl (Nat.le_of_ble_eq_true rfl) ⟨Nat.zero_le _, Nat.zero_le _⟩ dX4_fresh_31 (fun H locs hP hD hS => ?_)
        refine W.eq (g2 := F0 m 34 ls [.int r32]) rfl ?_
        obtain ⟨rfl, rfl⟩ := so2 hf
        exact rt_i hx hb hr hlocks hP hD hS dX4_fresh_34
def lp_X4_cue_37 (p1 : Int32) : Nat → (Int32) → (Int32) → (Int32) → (MS) → Option (Int32 × MS)
  | 0, _, _, _, _ => none
  | k_6 + 1, v4_6, v3_6, v2_6, m0_6 => if (80 : Int32) ≤ v4_6 then some (v2_6, m0_6) else gd ((3 : Int32) + (v4_6 - (v4_6 / (16 : Int32)) * (16 : Int32))) 67 (jn1 (s4_d m0_6 (upd (g4_d m0_6) ((3 : Int32) + (v4_6 - (v4_6 / (16 : Int32)) * (16 : Int32))).toNatClampNeg (v4_6 / (16 : Int32)))) (fun m_9 => bd2 (f_X4_houseBehind m_9 p1) (fun r11 m12 => jn2 (if r11 ≤ v3_6 then (v3_6, v2_6) else (r11, v4_6)) (fun x14 x15 => lp_X4_cue_37 p1 k_6 (v4_6 + (1 : Int32)) x14 x15 m12))))
def f_X4_cue (m0 : MS) (p1 : Int32) : Option (Int32 × MS) := bd1 (f_X4_in (p1.toInt64) (1 : Int64) (60 : Int64)) (fun r2 => if (bI r2) = 0 then bd2 (f_X4_finds m0 (0 : Int32)) (fun r19 m20 => some (r19, m20)) else bd1 (f_X4_copies_d_aside m0) (fun m5 => lp_X4_cue_37 p1 FU (0 : Int32) (-100000 : Int32) (0 : Int32) m5))
set_option maxHeartbeats 4000000 in
set_option maxRecDepth 100000 in
theorem c_X4_cue (l : Launch) (E : EV) (a : Nat → Nat) (m0 : MS) (p1 : Int32)  (r : Int32) (m0' : MS) (hf : f_X4_cue m0 p1 = some (r, m0')) : Ct l E yX4_cue cX4_cue 6 ((Option.some FieldType.int)) (rmk 7 159) [.ref (a 0), .int p1] (wX4 E a m0) (wX4 E a m0') (some (.int r)) := by
  refine Ct.of (by decide) (Nat.le_of_ble_eq_true rfl) ?_
  intro p e s m below meth c A ls hC hP hD hl
  obtain ⟨hx, hb, hr, hml, hown, hlocks, hE, hA⟩ := hC
  have hts : ∀ w ∈ tbl, w.before [.ref (a 0), .int p1].toArray s = true := fun w hw => hE.w hw
  have hS : va_S A s.heap s.heap [] := va_S.rf
  have hl : lv_has ls 6 [(0, .ref (a 0)), (1, .int p1)] := hl
  unfold f_X4_cue at hf
  refine lv_iload_n hx hb dX4_cue_0 rfl (lv_at hl 1 rfl) ?_
  refine lv_i2l (v := (p1.toInt64)) hx hb dX4_cue_1 rfl ?_
  refine lv_lconst (v := (1 : Int64)) hx hb dX4_cue_2 (by decide) ?_
  refine lv_ldc2 (v := (60 : Int64)) hx hb hown (hE.w tw_837) dX4_cue_3 ?_
  obtain ⟨r2, hc1, hf⟩ := bd1_some hf
  refine cS (X := List.take 0 (wX4 E a m0)) (Y := List.drop 0 (wX4 E a m0)) (w := (wX4 E a m0)) (w' := (wX4 E a m0)) lk_X4_46 hx hb hml hown hE hA (c_X4_in l E (p1.toInt64) (1 : Int64) (60 : Int64) r2 hc1) rfl rfl hP hD hS ⟨rfl, rfl, Nat.le_of_ble_eq_true rfl, Nat.le_of_ble_eq_true rfl⟩ hl.1 (As := [.long (p1.toInt64), .long (1 : Int64), .long (60 : Int64)]) (rest := []) rfl rfl (Nat.le_of_ble_eq_true rfl) ⟨Nat.zero_le _, Nat.zero_le _⟩ dX4_cue_6 (fun H locs hP hD hS => ?_)
  refine W.eq (g2 := F0 m 9 ls [.int (bI r2)]) rfl ?_
  refine lv_if_ne (tgt := 18) hx hb dX4_cue_9 (by decide) (fun c3 => ?_) (fun c3 => ?_)
  · have hf := im c3 hf
    refine lv_aload_n hx hb dX4_cue_18 rfl (lv_at hl 0 rfl) ?_
    refine va_get (D := E.1) (ci := 4) (v := .ref (a 1)) (C := RX4) (T := TX4) (N := 18) hx hb hts inX4 hown hE.2.1 hP 0 rfl rfl 0 (by decide) (hE.w tw_598) (fun _ h9 => h9) rfl dX4_cue_19 ?_
    refine lv_aload_n hx hb dX4_cue_22 rfl (lv_at hl 0 rfl) ?_
    refine va_get (D := E.1) (ci := 4) (v := .ref (a 3)) (C := RX4) (T := TX4) (N := 18) hx hb hts inX4 hown hE.2.1 hP 0 rfl rfl 2 (by decide) (hE.w tw_600) (fun _ h9 => h9) rfl dX4_cue_23 ?_
    obtain ⟨m5, hc4, hf⟩ := bd1_some hf
    refine cS (X := List.take 0 (wX4 E a m0)) (Y := List.drop 12 (wX4 E a m0)) (w := (wX4 E a m0)) (w' := (wX4 E a m5)) lk_X4_129 hx hb hml hown hE hA (c_X4_copies_d_aside l E a m0 m5 hc4) rfl rfl hP hD hS ⟨rfl, rfl, Nat.le_of_ble_eq_true rfl, Nat.le_of_ble_eq_true rfl⟩ hl.1 (As := [.ref (a 1), .ref (a 3)]) (rest := []) rfl rfl (Nat.le_of_ble_eq_true rfl) ⟨Nat.zero_le _, Nat.zero_le _⟩ dX4_cue_26 (fun H locs hP hD hS => ?_)
    refine W.eq (g2 := F0 m 29 ls []) rfl ?_
    refine lv_iconst (v := (0 : Int32)) hx hb dX4_cue_29 (by decide) ?_
    refine lv_istore_n (lv' := [(2, .int (0 : Int32)), (0, .ref (a 0)), (1, .int p1)]) hx hb dX4_cue_30 rfl hl (by decide) rfl (fun ls hl => ?_)
    refine lv_ldc (v := (-100000 : Int32)) hx hb hown (hE.w tw_838) dX4_cue_31 ?_
    refine lv_istore_n (lv' := [(3, .int (-100000 : Int32)), (2, .int (0 : Int32)), (0, .ref (a 0)), (1, .int p1)]) hx hb dX4_cue_33 rfl hl (by decide) rfl (fun ls hl => ?_)
    refine lv_iconst (v := (0 : Int32)) hx hb dX4_cue_34 (by decide) ?_
    refine lv_istore (lv' := [(4, .int (0 : Int32)), (3, .int (-100000 : Int32)), (2, .int (0 : Int32)), (0, .ref (a 0)), (1, .int p1)]) hx hb dX4_cue_35 hl (by decide) rfl (fun ls hl => ?_)
    have L_6 : ∀ (k_6 : Nat) (v4_6 : Int32) (v3_6 : Int32) (v2_6 : Int32) (m0_6 : MS), lp_X4_cue_37 p1 k_6 v4_6 v3_6 v2_6 m0_6 = some (r, m0') → ∀ (H : Heap) (locs : List Loc) (ls : Array Slot), va_P E.1 vwCl (wX4 E a m0_6) H → va_D A (wX4 E a m0_6) → va_S A s.heap H locs → lv_has ls 6 [(4, .int v4_6), (3, .int v3_6), (2, .int v2_6), (0, .ref (a 0)), (1, .int p1)] → W p l e (rmk 7 159) s m [.ref (a 0), .int p1].toArray below meth c H locs 0 0 (MQ below (Qct E A (wX4 E a m0') (some (.int r))) [.ref (a 0), .int p1].toArray s 0 0 A) (F0 m 37 ls []) := by
      intro k_6
      induction k_6 with
      | zero =>
        intro v4_6 v3_6 v2_6 m0_6 hf
        rw [lp_X4_cue_37] at hf
        cases hf
      | succ k_6 ih_6 =>
        intro v4_6 v3_6 v2_6 m0_6 hf H locs ls hP hD hS hl
        rw [lp_X4_cue_37] at hf
        refine lv_iload hx hb dX4_cue_37 (lv_at hl 0 rfl) ?_
        refine lv_bipush (v := (80 : Int32)) hx hb dX4_cue_39 (by decide) ?_
        refine lv_icmp_ge (tgt := 86) hx hb dX4_cue_41 (by decide) (fun c7 => ?_) (fun c7 => ?_)
        · have hf := ip c7 hf
          refine lv_iload_n hx hb dX4_cue_86 rfl (lv_at hl 2 rfl) ?_
          obtain ⟨rfl, rfl⟩ := so2 hf
          exact rt_i hx hb hr hlocks hP hD hS dX4_cue_87
        · have hf := im c7 hf
          refine lv_aload_n hx hb dX4_cue_44 rfl (lv_at hl 3 rfl) ?_
          refine va_get (D := E.1) (ci := 4) (v := .ref (a 1)) (C := RX4) (T := TX4) (N := 18) hx hb hts inX4 hown hE.2.1 hP 0 rfl rfl 0 (by decide) (hE.w tw_598) (fun _ h9 => h9) rfl dX4_cue_45 ?_
          refine lv_iconst (v := (3 : Int32)) hx hb dX4_cue_48 (by decide) ?_
          refine lv_iload hx hb dX4_cue_49 (lv_at hl 0 rfl) ?_
          refine lv_bipush (v := (16 : Int32)) hx hb dX4_cue_51 (by decide) ?_
          refine lv_irem hx hb dX4_cue_53 (by decide) ?_
          refine lv_iadd hx hb dX4_cue_54 ?_
          refine lv_iload hx hb dX4_cue_55 (lv_at hl 0 rfl) ?_
          refine lv_bipush (v := (16 : Int32)) hx hb dX4_cue_57 (by decide) ?_
          refine lv_idiv hx hb dX4_cue_59 (by decide) ?_
          obtain ⟨hg8, hf⟩ := gd_some hf
          obtain ⟨m_9, em_9, hf⟩ := jn1_some hf
          refine va_iast hx hb hE.2.1 hP hD hS 1 0 rfl rfl hg8 dX4_cue_60 (fun H locs hP hD hS => ?_)
          have hP : va_P E.1 vwCl (wX4 E a m_9) H := wst (by rw [em_9]; exact rfl) hP
          have hD : va_D A (wX4 E a m_9) := wsd (by rw [em_9]; exact rfl) hD
          refine lv_aload_n hx hb dX4_cue_61 rfl (lv_at hl 3 rfl) ?_
          refine lv_iload_n hx hb dX4_cue_62 rfl (lv_at hl 4 rfl) ?_
          obtain ⟨r11, m12, hc10, hf⟩ := bd2_some hf
          refine cV (X := List.take 0 (wX4 E a m_9)) (Y := List.drop 12 (wX4 E a m_9)) (w := (wX4 E a m_9)) (w' := (wX4 E a m12)) (q0 := 0) lk_X4_146 hx hb hml hown hE hA (c_X4_houseBehind l E a m_9 p1 r11 m12 hc10) rfl rfl hP hD hS rfl rfl ⟨rfl, rfl, Nat.le_of_ble_eq_true rfl, Nat.le_of_ble_eq_true rfl⟩ hl.1 (As := [.int p1]) (rest := []) rfl rfl (Nat.le_of_ble_eq_true rfl) ⟨Nat.zero_le _, Nat.zero_le _⟩ dX4_cue_63 (fun H locs hP hD hS => ?_)
          refine W.eq (g2 := F0 m 66 ls [.int r11]) rfl ?_
          refine lv_istore (lv' := [(5, .int r11), (4, .int v4_6), (3, .int v3_6), (2, .int v2_6), (0, .ref (a 0)), (1, .int p1)]) hx hb dX4_cue_66 hl (by decide) rfl (fun ls hl => ?_)
          refine lv_iload hx hb dX4_cue_68 (lv_at hl 0 rfl) ?_
          refine lv_iload_n hx hb dX4_cue_70 rfl (lv_at hl 2 rfl) ?_
          obtain ⟨x14, x15, hq17, hf⟩ := jn2_some hf
          have J16 : ∀ (H : Heap) (locs : List Loc) (ls : Array Slot), va_P E.1 vwCl (wX4 E a m12) H → va_D A (wX4 E a m12) → va_S A s.heap H locs → lv_has ls 6 [(5, .int r11), (4, .int v4_6), (3, .int x14), (2, .int x15), (0, .ref (a 0)), (1, .int p1)] → W p l e (rmk 7 159) s m [.ref (a 0), .int p1].toArray below meth c H locs 0 0 (MQ below (Qct E A (wX4 E a m0') (some (.int r))) [.ref (a 0), .int p1].toArray s 0 0 A) (F0 m 80 ls []) := by
            intro H locs ls hP hD hS hl
            refine lv_iinc (v := (v4_6 + (1 : Int32))) (lv' := [(4, .int (v4_6 + (1 : Int32))), (5, .int r11), (3, .int x14), (2, .int x15), (0, .ref (a 0)), (1, .int p1)]) hx hb dX4_cue_80 hl (k := 1) rfl rfl (by decide) rfl (fun ls hl => ?_)
            refine lv_goto (tgt := 37) hx hb dX4_cue_83 (by decide) ?_
            exact ih_6 _ _ _ _ hf _ _ _ hP hD hS (lv_sub hl [0, 2, 3, 4, 5] rfl)
          refine lv_icmp_le (tgt := 80) hx hb dX4_cue_71 (by decide) (fun c13 => ?_) (fun c13 => ?_)
          · have hq17 := ie c13 hq17
            obtain ⟨rfl, rfl⟩ := pj2 hq17
            exact J16 _ _ _ hP hD hS (lv_sub hl [0, 1, 2, 3, 4, 5] rfl)
          · have hq17 := ien c13 hq17
            refine lv_iload hx hb dX4_cue_74 (lv_at hl 1 rfl) ?_
            refine lv_istore_n (lv' := [(2, .int v4_6), (5, .int r11), (4, .int v4_6), (3, .int v3_6), (0, .ref (a 0)), (1, .int p1)]) hx hb dX4_cue_76 rfl hl (by decide) rfl (fun ls hl => ?_)
            refine lv_iload hx hb dX4_cue_77 (lv_at hl 1 rfl) ?_
            refine lv_istore_n (lv' := [(3, .int r11), (2, .int v4_6), (5, .int r11), (4, .int v4_6), (0, .ref (a 0)), (1, .int p1)]) hx hb dX4_cue_79 rfl hl (by decide) rfl (fun ls hl => ?_)
            obtain ⟨rfl, rfl⟩ := pj2 hq17
            exact J16 _ _ _ hP hD hS (lv_sub hl [2, 3, 0, 1, 4, 5] rfl)
    exact L_6 _ _ _ _ _ hf _ _ _ hP hD hS (lv_sub hl [0, 1, 2, 3, 4] rfl)
  · have hf := ip c3 hf
    refine lv_aload_n hx hb dX4_cue_12 rfl (lv_at hl 0 rfl) ?_
    refine lv_iconst (v := (0 : Int32)) hx hb dX4_cue_13 (by decide) ?_
    obtain ⟨r19, m20, hc18, hf⟩ := bd2_some hf
    refine cV (X := List.take 0 (wX4 E a m0)) (Y := List.drop 12 (wX4 E a m0)) (w := (wX4 E a m0)) (w' := (wX4 E a m20)) (q0 := 0) lk_X4_92 hx hb hml hown hE hA (c_X4_finds l E a m0 (0 : Int32) r19 m20 hc18) rfl rfl hP hD hS rfl rfl ⟨rfl, rfl, Nat.le_of_ble_eq_true rfl, Nat.le_of_ble_eq_true rfl⟩ hl.1 (As := [.int (0 : Int32)]) (rest := []) rfl rfl (Nat.le_of_ble_eq_true rfl) ⟨Nat.zero_le _, Nat.zero_le _⟩ dX4_cue_14 (fun H locs hP hD hS => ?_)
    refine W.eq (g2 := F0 m 17 ls [.int r19]) rfl ?_
    obtain ⟨rfl, rfl⟩ := so2 hf
    exact rt_i hx hb hr hlocks hP hD hS dX4_cue_17
def lp_X4_doze_32 (p1 : Int32) : Nat → (Int32) → (Int32) → (Int32) → (MS) → Option (Int32 × MS)
  | 0, _, _, _, _ => none
  | k_6 + 1, v4_6, v3_6, v2_6, m0_6 => gd (0 : Int32) 67 (if ((g4_d m0_6) (0 : Int32).toNatClampNeg) ≤ v4_6 then if 0 ≤ v2_6 then some (v2_6, m0_6) else bd2 (f_X4_finds m0_6 (3 : Int32)) (fun r11 m12 => some (r11, m12)) else bd1 (f_X4_sets m0_6 v4_6 (0 : Int32) (3 : Int32)) (fun m14 => bd2 (f_X4_houseBehind m14 p1) (fun r16 m17 => jn2 (if v3_6 ≤ r16 then (v3_6, v2_6) else (r16, v4_6)) (fun x19 x20 => lp_X4_doze_32 p1 k_6 (v4_6 + (1 : Int32)) x19 x20 m17))))
def f_X4_doze (m0 : MS) (p1 : Int32) : Option (Int32 × MS) := bd1 (f_X4_isShort p1) (fun r2 => if (bI r2) = 0 then bd2 (f_X4_finds m0 (0 : Int32)) (fun r24 m25 => some (r24, m25)) else bd1 (f_X4_copies_d_aside m0) (fun m5 => lp_X4_doze_32 p1 FU (0 : Int32) (100000 : Int32) (-1 : Int32) m5))
set_option maxHeartbeats 4000000 in
set_option maxRecDepth 100000 in
theorem c_X4_doze (l : Launch) (E : EV) (a : Nat → Nat) (m0 : MS) (p1 : Int32)  (r : Int32) (m0' : MS) (hf : f_X4_doze m0 p1 = some (r, m0')) : Ct l E yX4_doze cX4_doze 6 ((Option.some FieldType.int)) (rmk 7 159) [.ref (a 0), .int p1] (wX4 E a m0) (wX4 E a m0') (some (.int r)) := by
  refine Ct.of (by decide) (Nat.le_of_ble_eq_true rfl) ?_
  intro p e s m below meth c A ls hC hP hD hl
  obtain ⟨hx, hb, hr, hml, hown, hlocks, hE, hA⟩ := hC
  have hts : ∀ w ∈ tbl, w.before [.ref (a 0), .int p1].toArray s = true := fun w hw => hE.w hw
  have hS : va_S A s.heap s.heap [] := va_S.rf
  have hl : lv_has ls 6 [(0, .ref (a 0)), (1, .int p1)] := hl
  unfold f_X4_doze at hf
  refine lv_iload_n hx hb dX4_doze_0 rfl (lv_at hl 1 rfl) ?_
  obtain ⟨r2, hc1, hf⟩ := bd1_some hf
  refine cS (X := List.take 0 (wX4 E a m0)) (Y := List.drop 0 (wX4 E a m0)) (w := (wX4 E a m0)) (w' := (wX4 E a m0)) lk_X4_149 hx hb hml hown hE hA (c_X4_isShort l E p1 r2 hc1) rfl rfl hP hD hS ⟨rfl, rfl, Nat.le_of_ble_eq_true rfl, Nat.le_of_ble_eq_true rfl⟩ hl.1 (As := [.int p1]) (rest := []) rfl rfl (Nat.le_of_ble_eq_true rfl) ⟨Nat.zero_le _, Nat.zero_le _⟩ dX4_doze_1 (fun H locs hP hD hS => ?_)
  refine W.eq (g2 := F0 m 4 ls [.int (bI r2)]) rfl ?_
  refine lv_if_ne (tgt := 13) hx hb dX4_doze_4 (by decide) (fun c3 => ?_) (fun c3 => ?_)
  · have hf := im c3 hf
    refine lv_aload_n hx hb dX4_doze_13 rfl (lv_at hl 0 rfl) ?_
    refine va_get (D := E.1) (ci := 4) (v := .ref (a 1)) (C := RX4) (T := TX4) (N := 18) hx hb hts inX4 hown hE.2.1 hP 0 rfl rfl 0 (by decide) (hE.w tw_598) (fun _ h9 => h9) rfl dX4_doze_14 ?_
    refine lv_aload_n hx hb dX4_doze_17 rfl (lv_at hl 0 rfl) ?_
    refine va_get (D := E.1) (ci := 4) (v := .ref (a 3)) (C := RX4) (T := TX4) (N := 18) hx hb hts inX4 hown hE.2.1 hP 0 rfl rfl 2 (by decide) (hE.w tw_600) (fun _ h9 => h9) rfl dX4_doze_18 ?_
    obtain ⟨m5, hc4, hf⟩ := bd1_some hf
    refine cS (X := List.take 0 (wX4 E a m0)) (Y := List.drop 12 (wX4 E a m0)) (w := (wX4 E a m0)) (w' := (wX4 E a m5)) lk_X4_129 hx hb hml hown hE hA (c_X4_copies_d_aside l E a m0 m5 hc4) rfl rfl hP hD hS ⟨rfl, rfl, Nat.le_of_ble_eq_true rfl, Nat.le_of_ble_eq_true rfl⟩ hl.1 (As := [.ref (a 1), .ref (a 3)]) (rest := []) rfl rfl (Nat.le_of_ble_eq_true rfl) ⟨Nat.zero_le _, Nat.zero_le _⟩ dX4_doze_21 (fun H locs hP hD hS => ?_)
    refine W.eq (g2 := F0 m 24 ls []) rfl ?_
    refine lv_iconst (v := (-1 : Int32)) hx hb dX4_doze_24 (by decide) ?_
    refine lv_istore_n (lv' := [(2, .int (-1 : Int32)), (0, .ref (a 0)), (1, .int p1)]) hx hb dX4_doze_25 rfl hl (by decide) rfl (fun ls hl => ?_)
    refine lv_ldc (v := (100000 : Int32)) hx hb hown (hE.w tw_843) dX4_doze_26 ?_
    refine lv_istore_n (lv' := [(3, .int (100000 : Int32)), (2, .int (-1 : Int32)), (0, .ref (a 0)), (1, .int p1)]) hx hb dX4_doze_28 rfl hl (by decide) rfl (fun ls hl => ?_)
    refine lv_iconst (v := (0 : Int32)) hx hb dX4_doze_29 (by decide) ?_
    refine lv_istore (lv' := [(4, .int (0 : Int32)), (3, .int (100000 : Int32)), (2, .int (-1 : Int32)), (0, .ref (a 0)), (1, .int p1)]) hx hb dX4_doze_30 hl (by decide) rfl (fun ls hl => ?_)
    have L_6 : ∀ (k_6 : Nat) (v4_6 : Int32) (v3_6 : Int32) (v2_6 : Int32) (m0_6 : MS), lp_X4_doze_32 p1 k_6 v4_6 v3_6 v2_6 m0_6 = some (r, m0') → ∀ (H : Heap) (locs : List Loc) (ls : Array Slot), va_P E.1 vwCl (wX4 E a m0_6) H → va_D A (wX4 E a m0_6) → va_S A s.heap H locs → lv_has ls 6 [(4, .int v4_6), (3, .int v3_6), (2, .int v2_6), (0, .ref (a 0)), (1, .int p1)] → W p l e (rmk 7 159) s m [.ref (a 0), .int p1].toArray below meth c H locs 0 0 (MQ below (Qct E A (wX4 E a m0') (some (.int r))) [.ref (a 0), .int p1].toArray s 0 0 A) (F0 m 32 ls []) := by
      intro k_6
      induction k_6 with
      | zero =>
        intro v4_6 v3_6 v2_6 m0_6 hf
        rw [lp_X4_doze_32] at hf
        cases hf
      | succ k_6 ih_6 =>
        intro v4_6 v3_6 v2_6 m0_6 hf H locs ls hP hD hS hl
        rw [lp_X4_doze_32] at hf
        refine lv_iload hx hb dX4_doze_32 (lv_at hl 0 rfl) ?_
        refine lv_aload_n hx hb dX4_doze_34 rfl (lv_at hl 3 rfl) ?_
        refine va_get (D := E.1) (ci := 4) (v := .ref (a 1)) (C := RX4) (T := TX4) (N := 18) hx hb hts inX4 hown hE.2.1 hP 0 rfl rfl 0 (by decide) (hE.w tw_598) (fun _ h9 => h9) rfl dX4_doze_35 ?_
        refine lv_iconst (v := (0 : Int32)) hx hb dX4_doze_38 (by decide) ?_
        obtain ⟨hg7, hf⟩ := gd_some hf
        refine va_iald hx hb hE.2.1 hP 1 0 rfl rfl hg7 dX4_doze_39 ?_
        refine lv_icmp_ge (tgt := 76) hx hb dX4_doze_40 (by decide) (fun c8 => ?_) (fun c8 => ?_)
        · have hf := ip c8 hf
          refine lv_iload_n hx hb dX4_doze_76 rfl (lv_at hl 2 rfl) ?_
          refine lv_if_ge (tgt := 88) hx hb dX4_doze_77 (by decide) (fun c9 => ?_) (fun c9 => ?_)
          · have hf := ip c9 hf
            refine lv_iload_n hx hb dX4_doze_88 rfl (lv_at hl 2 rfl) ?_
            obtain ⟨rfl, rfl⟩ := so2 hf
            exact rt_i hx hb hr hlocks hP hD hS dX4_doze_89
          · have hf := im c9 hf
            refine lv_aload_n hx hb dX4_doze_80 rfl (lv_at hl 3 rfl) ?_
            refine lv_iconst (v := (3 : Int32)) hx hb dX4_doze_81 (by decide) ?_
            obtain ⟨r11, m12, hc10, hf⟩ := bd2_some hf
            refine cV (X := List.take 0 (wX4 E a m0_6)) (Y := List.drop 12 (wX4 E a m0_6)) (w := (wX4 E a m0_6)) (w' := (wX4 E a m12)) (q0 := 0) lk_X4_92 hx hb hml hown hE hA (c_X4_finds l E a m0_6 (3 : Int32) r11 m12 hc10) rfl rfl hP hD hS rfl rfl ⟨rfl, rfl, Nat.le_of_ble_eq_true rfl, Nat.le_of_ble_eq_true rfl⟩ hl.1 (As := [.int (3 : Int32)]) (rest := []) rfl rfl (Nat.le_of_ble_eq_true rfl) ⟨Nat.zero_le _, Nat.zero_le _⟩ dX4_doze_82 (fun H locs hP hD hS => ?_)
            refine W.eq (g2 := F0 m 85 ls [.int r11]) rfl ?_
            refine lv_goto (tgt := 89) hx hb dX4_doze_85 (by decide) ?_
            obtain ⟨rfl, rfl⟩ := so2 hf
            exact rt_i hx hb hr hlocks hP hD hS dX4_doze_89
        · have hf := im c8 hf
          refine lv_aload_n hx hb dX4_doze_43 rfl (lv_at hl 3 rfl) ?_
          refine lv_iload hx hb dX4_doze_44 (lv_at hl 0 rfl) ?_
          refine lv_iconst (v := (0 : Int32)) hx hb dX4_doze_46 (by decide) ?_
          refine lv_iconst (v := (3 : Int32)) hx hb dX4_doze_47 (by decide) ?_
          obtain ⟨m14, hc13, hf⟩ := bd1_some hf
          refine cV (X := List.take 0 (wX4 E a m0_6)) (Y := List.drop 12 (wX4 E a m0_6)) (w := (wX4 E a m0_6)) (w' := (wX4 E a m14)) (q0 := 0) lk_X4_73 hx hb hml hown hE hA (c_X4_sets l E a m0_6 v4_6 (0 : Int32) (3 : Int32) m14 hc13) rfl rfl hP hD hS rfl rfl ⟨rfl, rfl, Nat.le_of_ble_eq_true rfl, Nat.le_of_ble_eq_true rfl⟩ hl.1 (As := [.int v4_6, .int (0 : Int32), .int (3 : Int32)]) (rest := []) rfl rfl (Nat.le_of_ble_eq_true rfl) ⟨Nat.zero_le _, Nat.zero_le _⟩ dX4_doze_48 (fun H locs hP hD hS => ?_)
          refine W.eq (g2 := F0 m 51 ls []) rfl ?_
          refine lv_aload_n hx hb dX4_doze_51 rfl (lv_at hl 3 rfl) ?_
          refine lv_iload_n hx hb dX4_doze_52 rfl (lv_at hl 4 rfl) ?_
          obtain ⟨r16, m17, hc15, hf⟩ := bd2_some hf
          refine cV (X := List.take 0 (wX4 E a m14)) (Y := List.drop 12 (wX4 E a m14)) (w := (wX4 E a m14)) (w' := (wX4 E a m17)) (q0 := 0) lk_X4_146 hx hb hml hown hE hA (c_X4_houseBehind l E a m14 p1 r16 m17 hc15) rfl rfl hP hD hS rfl rfl ⟨rfl, rfl, Nat.le_of_ble_eq_true rfl, Nat.le_of_ble_eq_true rfl⟩ hl.1 (As := [.int p1]) (rest := []) rfl rfl (Nat.le_of_ble_eq_true rfl) ⟨Nat.zero_le _, Nat.zero_le _⟩ dX4_doze_53 (fun H locs hP hD hS => ?_)
          refine W.eq (g2 := F0 m 56 ls [.int r16]) rfl ?_
          refine lv_istore (lv' := [(5, .int r16), (4, .int v4_6), (3, .int v3_6), (2, .int v2_6), (0, .ref (a 0)), (1, .int p1)]) hx hb dX4_doze_56 hl (by decide) rfl (fun ls hl => ?_)
          refine lv_iload hx hb dX4_doze_58 (lv_at hl 0 rfl) ?_
          refine lv_iload_n hx hb dX4_doze_60 rfl (lv_at hl 2 rfl) ?_
          obtain ⟨x19, x20, hq22, hf⟩ := jn2_some hf
          have J21 : ∀ (H : Heap) (locs : List Loc) (ls : Array Slot), va_P E.1 vwCl (wX4 E a m17) H → va_D A (wX4 E a m17) → va_S A s.heap H locs → lv_has ls 6 [(5, .int r16), (4, .int v4_6), (3, .int x19), (2, .int x20), (0, .ref (a 0)), (1, .int p1)] → W p l e (rmk 7 159) s m [.ref (a 0), .int p1].toArray below meth c H locs 0 0 (MQ below (Qct E A (wX4 E a m0') (some (.int r))) [.ref (a 0), .int p1].toArray s 0 0 A) (F0 m 70 ls []) := by
            intro H locs ls hP hD hS hl
            refine lv_iinc (v := (v4_6 + (1 : Int32))) (lv' := [(4, .int (v4_6 + (1 : Int32))), (5, .int r16), (3, .int x19), (2, .int x20), (0, .ref (a 0)), (1, .int p1)]) hx hb dX4_doze_70 hl (k := 1) rfl rfl (by decide) rfl (fun ls hl => ?_)
            refine lv_goto (tgt := 32) hx hb dX4_doze_73 (by decide) ?_
            exact ih_6 _ _ _ _ hf _ _ _ hP hD hS (lv_sub hl [0, 2, 3, 4, 5] rfl)
          refine lv_icmp_ge (tgt := 70) hx hb dX4_doze_61 (by decide) (fun c18 => ?_) (fun c18 => ?_)
          · have hq22 := ie c18 hq22
            obtain ⟨rfl, rfl⟩ := pj2 hq22
            exact J21 _ _ _ hP hD hS (lv_sub hl [0, 1, 2, 3, 4, 5] rfl)
          · have hq22 := ien c18 hq22
            refine lv_iload hx hb dX4_doze_64 (lv_at hl 1 rfl) ?_
            refine lv_istore_n (lv' := [(2, .int v4_6), (5, .int r16), (4, .int v4_6), (3, .int v3_6), (0, .ref (a 0)), (1, .int p1)]) hx hb dX4_doze_66 rfl hl (by decide) rfl (fun ls hl => ?_)
            refine lv_iload hx hb dX4_doze_67 (lv_at hl 1 rfl) ?_
            refine lv_istore_n (lv' := [(3, .int r16), (2, .int v4_6), (5, .int r16), (4, .int v4_6), (0, .ref (a 0)), (1, .int p1)]) hx hb dX4_doze_69 rfl hl (by decide) rfl (fun ls hl => ?_)
            obtain ⟨rfl, rfl⟩ := pj2 hq22
            exact J21 _ _ _ hP hD hS (lv_sub hl [2, 3, 0, 1, 4, 5] rfl)
    exact L_6 _ _ _ _ _ hf _ _ _ hP hD hS (lv_sub hl [0, 1, 2, 3, 4] rfl)
  · have hf := ip c3 hf
    refine lv_aload_n hx hb dX4_doze_7 rfl (lv_at hl 0 rfl) ?_
    refine lv_iconst (v := (0 : Int32)) hx hb dX4_doze_8 (by decide) ?_
    obtain ⟨r24, m25, hc23, hf⟩ := bd2_some hf
    refine cV (X := List.take 0 (wX4 E a m0)) (Y := List.drop 12 (wX4 E a m0)) (w := (wX4 E a m0)) (w' := (wX4 E a m25)) (q0 := 0) lk_X4_92 hx hb hml hown hE hA (c_X4_finds l E a m0 (0 : Int32) r24 m25 hc23) rfl rfl hP hD hS rfl rfl ⟨rfl, rfl, Nat.le_of_ble_eq_true rfl, Nat.le_of_ble_eq_true rfl⟩ hl.1 (As := [.int (0 : Int32)]) (rest := []) rfl rfl (Nat.le_of_ble_eq_true rfl) ⟨Nat.zero_le _, Nat.zero_le _⟩ dX4_doze_9 (fun H locs hP hD hS => ?_)
    refine W.eq (g2 := F0 m 12 ls [.int r24]) rfl ?_
    obtain ⟨rfl, rfl⟩ := so2 hf
    exact rt_i hx hb hr hlocks hP hD hS dX4_doze_12
def lp_X4_tense_48 (v3_12 : Int32) (K : (Int32) → (MS) → Option (Int32 × MS)) : Nat → (Int32) → (MS) → Option (Int32 × MS)
  | 0, _, _ => none
  | k_17 + 1, v4_17, m0_17 => if (16 : Int32) ≤ v4_17 then K v4_17 m0_17 else gd ((19 : Int32) + v4_17) 67 (jn1 (s4_d m0_17 (upd (g4_d m0_17) ((19 : Int32) + v4_17).toNatClampNeg v3_12)) (fun m_20 => lp_X4_tense_48 v3_12 K k_17 (v4_17 + (1 : Int32)) m_20))
def lp_X4_tense_41 (p1 : Int32) (p2 : Int32) : Nat → (Int32) → (MS) → Option (Int32 × MS)
  | 0, _, _ => none
  | k_12 + 1, v3_12, m0_12 => if v3_12 < 0 then bd2 (f_X4_finds m0_12 (3 : Int32)) (fun r15 m16 => some (r15, m16)) else lp_X4_tense_48 v3_12 (fun (v4_21 : Int32) (m0_21 : MS) => bd2 (f_X4_houseBehind m0_21 p1) (fun r23 m24 => if r23 < p2 then lp_X4_tense_41 p1 p2 k_12 (v3_12 + (-1 : Int32)) m24 else some (v3_12, m24))) FU (0 : Int32) m0_12
def f_X4_tense (m0 : MS) (p1 : Int32) (p2 : Int32) : Option (Int32 × MS) := bd1 (f_X4_isShort p1) (fun r2 => if (bI r2) = 0 then bd2 (f_X4_finds m0 (0 : Int32)) (fun r5 m6 => some (r5, m6)) else bd1 (f_X4_in (p2.toInt64) (-9999 : Int64) (9999 : Int64)) (fun r8 => if (bI r8) = 0 then bd2 (f_X4_finds m0 (0 : Int32)) (fun r27 m28 => some (r27, m28)) else bd1 (f_X4_copies_d_aside m0) (fun m11 => lp_X4_tense_41 p1 p2 FU (20 : Int32) m11)))
set_option maxHeartbeats 4000000 in
set_option maxRecDepth 100000 in
theorem c_X4_tense (l : Launch) (E : EV) (a : Nat → Nat) (m0 : MS) (p1 : Int32) (p2 : Int32)  (r : Int32) (m0' : MS) (hf : f_X4_tense m0 p1 p2 = some (r, m0')) : Ct l E yX4_tense cX4_tense 5 ((Option.some FieldType.int)) (rmk 7 159) [.ref (a 0), .int p1, .int p2] (wX4 E a m0) (wX4 E a m0') (some (.int r)) := by
  refine Ct.of (by decide) (Nat.le_of_ble_eq_true rfl) ?_
  intro p e s m below meth c A ls hC hP hD hl
  obtain ⟨hx, hb, hr, hml, hown, hlocks, hE, hA⟩ := hC
  have hts : ∀ w ∈ tbl, w.before [.ref (a 0), .int p1, .int p2].toArray s = true := fun w hw => hE.w hw
  have hS : va_S A s.heap s.heap [] := va_S.rf
  have hl : lv_has ls 5 [(0, .ref (a 0)), (1, .int p1), (2, .int p2)] := hl
  unfold f_X4_tense at hf
  refine lv_iload_n hx hb dX4_tense_0 rfl (lv_at hl 1 rfl) ?_
  obtain ⟨r2, hc1, hf⟩ := bd1_some hf
  refine cS (X := List.take 0 (wX4 E a m0)) (Y := List.drop 0 (wX4 E a m0)) (w := (wX4 E a m0)) (w' := (wX4 E a m0)) lk_X4_149 hx hb hml hown hE hA (c_X4_isShort l E p1 r2 hc1) rfl rfl hP hD hS ⟨rfl, rfl, Nat.le_of_ble_eq_true rfl, Nat.le_of_ble_eq_true rfl⟩ hl.1 (As := [.int p1]) (rest := []) rfl rfl (Nat.le_of_ble_eq_true rfl) ⟨Nat.zero_le _, Nat.zero_le _⟩ dX4_tense_1 (fun H locs hP hD hS => ?_)
  refine W.eq (g2 := F0 m 4 ls [.int (bI r2)]) rfl ?_
  refine lv_if_eq (tgt := 21) hx hb dX4_tense_4 (by decide) (fun c3 => ?_) (fun c3 => ?_)
  · have hf := ip c3 hf
    refine lv_aload_n hx hb dX4_tense_21 rfl (lv_at hl 0 rfl) ?_
    refine lv_iconst (v := (0 : Int32)) hx hb dX4_tense_22 (by decide) ?_
    obtain ⟨r5, m6, hc4, hf⟩ := bd2_some hf
    refine cV (X := List.take 0 (wX4 E a m0)) (Y := List.drop 12 (wX4 E a m0)) (w := (wX4 E a m0)) (w' := (wX4 E a m6)) (q0 := 0) lk_X4_92 hx hb hml hown hE hA (c_X4_finds l E a m0 (0 : Int32) r5 m6 hc4) rfl rfl hP hD hS rfl rfl ⟨rfl, rfl, Nat.le_of_ble_eq_true rfl, Nat.le_of_ble_eq_true rfl⟩ hl.1 (As := [.int (0 : Int32)]) (rest := []) rfl rfl (Nat.le_of_ble_eq_true rfl) ⟨Nat.zero_le _, Nat.zero_le _⟩ dX4_tense_23 (fun H locs hP hD hS => ?_)
    refine W.eq (g2 := F0 m 26 ls [.int r5]) rfl ?_
    obtain ⟨rfl, rfl⟩ := so2 hf
    exact rt_i hx hb hr hlocks hP hD hS dX4_tense_26
  · have hf := im c3 hf
    refine lv_iload_n hx hb dX4_tense_7 rfl (lv_at hl 2 rfl) ?_
    refine lv_i2l (v := (p2.toInt64)) hx hb dX4_tense_8 rfl ?_
    refine lv_ldc2 (v := (-9999 : Int64)) hx hb hown (hE.w tw_743) dX4_tense_9 ?_
    refine lv_ldc2 (v := (9999 : Int64)) hx hb hown (hE.w tw_744) dX4_tense_12 ?_
    obtain ⟨r8, hc7, hf⟩ := bd1_some hf
    refine cS (X := List.take 0 (wX4 E a m0)) (Y := List.drop 0 (wX4 E a m0)) (w := (wX4 E a m0)) (w' := (wX4 E a m0)) lk_X4_46 hx hb hml hown hE hA (c_X4_in l E (p2.toInt64) (-9999 : Int64) (9999 : Int64) r8 hc7) rfl rfl hP hD hS ⟨rfl, rfl, Nat.le_of_ble_eq_true rfl, Nat.le_of_ble_eq_true rfl⟩ hl.1 (As := [.long (p2.toInt64), .long (-9999 : Int64), .long (9999 : Int64)]) (rest := []) rfl rfl (Nat.le_of_ble_eq_true rfl) ⟨Nat.zero_le _, Nat.zero_le _⟩ dX4_tense_15 (fun H locs hP hD hS => ?_)
    refine W.eq (g2 := F0 m 18 ls [.int (bI r8)]) rfl ?_
    refine lv_if_ne (tgt := 27) hx hb dX4_tense_18 (by decide) (fun c9 => ?_) (fun c9 => ?_)
    · have hf := im c9 hf
      refine lv_aload_n hx hb dX4_tense_27 rfl (lv_at hl 0 rfl) ?_
      refine va_get (D := E.1) (ci := 4) (v := .ref (a 1)) (C := RX4) (T := TX4) (N := 18) hx hb hts inX4 hown hE.2.1 hP 0 rfl rfl 0 (by decide) (hE.w tw_598) (fun _ h9 => h9) rfl dX4_tense_28 ?_
      refine lv_aload_n hx hb dX4_tense_31 rfl (lv_at hl 0 rfl) ?_
      refine va_get (D := E.1) (ci := 4) (v := .ref (a 3)) (C := RX4) (T := TX4) (N := 18) hx hb hts inX4 hown hE.2.1 hP 0 rfl rfl 2 (by decide) (hE.w tw_600) (fun _ h9 => h9) rfl dX4_tense_32 ?_
      obtain ⟨m11, hc10, hf⟩ := bd1_some hf
      refine cS (X := List.take 0 (wX4 E a m0)) (Y := List.drop 12 (wX4 E a m0)) (w := (wX4 E a m0)) (w' := (wX4 E a m11)) lk_X4_129 hx hb hml hown hE hA (c_X4_copies_d_aside l E a m0 m11 hc10) rfl rfl hP hD hS ⟨rfl, rfl, Nat.le_of_ble_eq_true rfl, Nat.le_of_ble_eq_true rfl⟩ hl.1 (As := [.ref (a 1), .ref (a 3)]) (rest := []) rfl rfl (Nat.le_of_ble_eq_true rfl) ⟨Nat.zero_le _, Nat.zero_le _⟩ dX4_tense_35 (fun H locs hP hD hS => ?_)
      refine W.eq (g2 := F0 m 38 ls []) rfl ?_
      refine lv_bipush (v := (20 : Int32)) hx hb dX4_tense_38 (by decide) ?_
      refine lv_istore_n (lv' := [(3, .int (20 : Int32)), (0, .ref (a 0)), (1, .int p1), (2, .int p2)]) hx hb dX4_tense_40 rfl hl (by decide) rfl (fun ls hl => ?_)
      have L_12 : ∀ (k_12 : Nat) (v3_12 : Int32) (m0_12 : MS), lp_X4_tense_41 p1 p2 k_12 v3_12 m0_12 = some (r, m0') → ∀ (H : Heap) (locs : List Loc) (ls : Array Slot), va_P E.1 vwCl (wX4 E a m0_12) H → va_D A (wX4 E a m0_12) → va_S A s.heap H locs → lv_has ls 5 [(3, .int v3_12), (0, .ref (a 0)), (1, .int p1), (2, .int p2)] → W p l e (rmk 7 159) s m [.ref (a 0), .int p1, .int p2].toArray below meth c H locs 0 0 (MQ below (Qct E A (wX4 E a m0') (some (.int r))) [.ref (a 0), .int p1, .int p2].toArray s 0 0 A) (F0 m 41 ls []) := by
        intro k_12
        induction k_12 with
        | zero =>
          intro v3_12 m0_12 hf
          rw [lp_X4_tense_41] at hf
          cases hf
        | succ k_12 ih_12 =>
          intro v3_12 m0_12 hf H locs ls hP hD hS hl
          rw [lp_X4_tense_41] at hf
          refine lv_iload_n hx hb dX4_tense_41 rfl (lv_at hl 0 rfl) ?_
          refine lv_if_lt (tgt := 89) hx hb dX4_tense_42 (by decide) (fun c13 => ?_) (fun c13 => ?_)
          · have hf := ip c13 hf
            refine lv_aload_n hx hb dX4_tense_89 rfl (lv_at hl 1 rfl) ?_
            refine lv_iconst (v := (3 : Int32)) hx hb dX4_tense_90 (by decide) ?_
            obtain ⟨r15, m16, hc14, hf⟩ := bd2_some hf
            refine cV (X := List.take 0 (wX4 E a m0_12)) (Y := List.drop 12 (wX4 E a m0_12)) (w := (wX4 E a m0_12)) (w' := (wX4 E a m16)) (q0 := 0) lk_X4_92 hx hb hml hown hE hA (c_X4_finds l E a m0_12 (3 : Int32) r15 m16 hc14) rfl rfl hP hD hS rfl rfl ⟨rfl, rfl, Nat.le_of_ble_eq_true rfl, Nat.le_of_ble_eq_true rfl⟩ hl.1 (As := [.int (3 : Int32)]) (rest := []) rfl rfl (Nat.le_of_ble_eq_true rfl) ⟨Nat.zero_le _, Nat.zero_le _⟩ dX4_tense_91 (fun H locs hP hD hS => ?_)
            refine W.eq (g2 := F0 m 94 ls [.int r15]) rfl ?_
            obtain ⟨rfl, rfl⟩ := so2 hf
            exact rt_i hx hb hr hlocks hP hD hS dX4_tense_94
          · have hf := im c13 hf
            refine lv_iconst (v := (0 : Int32)) hx hb dX4_tense_45 (by decide) ?_
            refine lv_istore (lv' := [(4, .int (0 : Int32)), (3, .int v3_12), (0, .ref (a 0)), (1, .int p1), (2, .int p2)]) hx hb dX4_tense_46 hl (by decide) rfl (fun ls hl => ?_)
            have hX : ∀ (H : Heap) (locs : List Loc) (ls : Array Slot) (v4_21 : Int32) (m0_21 : MS), (fun (v4_21 : Int32) (m0_21 : MS) => bd2 (f_X4_houseBehind m0_21 p1) (fun r23 m24 => if r23 < p2 then lp_X4_tense_41 p1 p2 k_12 (v3_12 + (-1 : Int32)) m24 else some (v3_12, m24))) v4_21 m0_21 = some (r, m0') → va_P E.1 vwCl (wX4 E a m0_21) H → va_D A (wX4 E a m0_21) → va_S A s.heap H locs → lv_has ls 5 [(4, .int v4_21), (3, .int v3_12), (0, .ref (a 0)), (1, .int p1), (2, .int p2)] → W p l e (rmk 7 159) s m [.ref (a 0), .int p1, .int p2].toArray below meth c H locs 0 0 (MQ below (Qct E A (wX4 E a m0') (some (.int r))) [.ref (a 0), .int p1, .int p2].toArray s 0 0 A) (F0 m 72 ls []) := by
              intro H locs ls v4_21 m0_21 hf hP hD hS hl
              refine lv_aload_n hx hb dX4_tense_72 rfl (lv_at hl 2 rfl) ?_
              refine lv_iload_n hx hb dX4_tense_73 rfl (lv_at hl 3 rfl) ?_
              obtain ⟨r23, m24, hc22, hf⟩ := bd2_some hf
              refine cV (X := List.take 0 (wX4 E a m0_21)) (Y := List.drop 12 (wX4 E a m0_21)) (w := (wX4 E a m0_21)) (w' := (wX4 E a m24)) (q0 := 0) lk_X4_146 hx hb hml hown hE hA (c_X4_houseBehind l E a m0_21 p1 r23 m24 hc22) rfl rfl hP hD hS rfl rfl ⟨rfl, rfl, Nat.le_of_ble_eq_true rfl, Nat.le_of_ble_eq_true rfl⟩ hl.1 (As := [.int p1]) (rest := []) rfl rfl (Nat.le_of_ble_eq_true rfl) ⟨Nat.zero_le _, Nat.zero_le _⟩ dX4_tense_74 (fun H locs hP hD hS => ?_)
              refine W.eq (g2 := F0 m 77 ls [.int r23]) rfl ?_
              refine lv_iload_n hx hb dX4_tense_77 rfl (lv_at hl 4 rfl) ?_
              refine lv_icmp_lt (tgt := 83) hx hb dX4_tense_78 (by decide) (fun c25 => ?_) (fun c25 => ?_)
              · have hf := ip c25 hf
                refine lv_iinc (v := (v3_12 + (-1 : Int32))) (lv' := [(3, .int (v3_12 + (-1 : Int32))), (4, .int v4_21), (0, .ref (a 0)), (1, .int p1), (2, .int p2)]) hx hb dX4_tense_83 hl (k := 1) rfl rfl (by decide) rfl (fun ls hl => ?_)
                refine lv_goto (tgt := 41) hx hb dX4_tense_86 (by decide) ?_
                exact ih_12 _ _ hf _ _ _ hP hD hS (lv_sub hl [0, 2, 3, 4] rfl)
              · have hf := im c25 hf
                refine lv_iload_n hx hb dX4_tense_81 rfl (lv_at hl 1 rfl) ?_
                obtain ⟨rfl, rfl⟩ := so2 hf
                exact rt_i hx hb hr hlocks hP hD hS dX4_tense_82
            generalize (fun (v4_21 : Int32) (m0_21 : MS) => bd2 (f_X4_houseBehind m0_21 p1) (fun r23 m24 => if r23 < p2 then lp_X4_tense_41 p1 p2 k_12 (v3_12 + (-1 : Int32)) m24 else some (v3_12, m24))) = K at hf hX ⊢
            have L_17 : ∀ (k_17 : Nat) (v4_17 : Int32) (m0_17 : MS), lp_X4_tense_48 v3_12 K k_17 v4_17 m0_17 = some (r, m0') → ∀ (H : Heap) (locs : List Loc) (ls : Array Slot), va_P E.1 vwCl (wX4 E a m0_17) H → va_D A (wX4 E a m0_17) → va_S A s.heap H locs → lv_has ls 5 [(4, .int v4_17), (3, .int v3_12), (0, .ref (a 0)), (1, .int p1), (2, .int p2)] → W p l e (rmk 7 159) s m [.ref (a 0), .int p1, .int p2].toArray below meth c H locs 0 0 (MQ below (Qct E A (wX4 E a m0') (some (.int r))) [.ref (a 0), .int p1, .int p2].toArray s 0 0 A) (F0 m 48 ls []) := by
              intro k_17
              induction k_17 with
              | zero =>
                intro v4_17 m0_17 hf
                rw [lp_X4_tense_48] at hf
                cases hf
              | succ k_17 ih_17 =>
                intro v4_17 m0_17 hf H locs ls hP hD hS hl
                rw [lp_X4_tense_48] at hf
                refine lv_iload hx hb dX4_tense_48 (lv_at hl 0 rfl) ?_
                refine lv_bipush (v := (16 : Int32)) hx hb dX4_tense_50 (by decide) ?_
                refine lv_icmp_ge (tgt := 72) hx hb dX4_tense_52 (by decide) (fun c18 => ?_) (fun c18 => ?_)
                · have hf := ip c18 hf
                  exact hX _ _ _ _ _ hf hP hD hS (lv_sub hl [0, 1, 2, 3, 4] rfl)
                · have hf := im c18 hf
                  refine lv_aload_n hx hb dX4_tense_55 rfl (lv_at hl 2 rfl) ?_
                  refine va_get (D := E.1) (ci := 4) (v := .ref (a 1)) (C := RX4) (T := TX4) (N := 18) hx hb hts inX4 hown hE.2.1 hP 0 rfl rfl 0 (by decide) (hE.w tw_598) (fun _ h9 => h9) rfl dX4_tense_56 ?_
                  refine lv_bipush (v := (19 : Int32)) hx hb dX4_tense_59 (by decide) ?_
                  refine lv_iload hx hb dX4_tense_61 (lv_at hl 0 rfl) ?_
                  refine lv_iadd hx hb dX4_tense_63 ?_
                  refine lv_iload_n hx hb dX4_tense_64 rfl (lv_at hl 1 rfl) ?_
                  obtain ⟨hg19, hf⟩ := gd_some hf
                  obtain ⟨m_20, em_20, hf⟩ := jn1_some hf
                  refine va_iast hx hb hE.2.1 hP hD hS 1 0 rfl rfl hg19 dX4_tense_65 (fun H locs hP hD hS => ?_)
                  have hP : va_P E.1 vwCl (wX4 E a m_20) H := wst (by rw [em_20]; exact rfl) hP
                  have hD : va_D A (wX4 E a m_20) := wsd (by rw [em_20]; exact rfl) hD
                  refine lv_iinc (v := (v4_17 + (1 : Int32))) (lv' := [(4, .int (v4_17 + (1 : Int32))), (3, .int v3_12), (0, .ref (a 0)), (1, .int p1), (2, .int p2)]) hx hb dX4_tense_66 hl (k := 0) rfl rfl (by decide) rfl (fun ls hl => ?_)
                  refine lv_goto (tgt := 48) hx hb dX4_tense_69 (by decide) ?_
                  exact ih_17 _ _ hf _ _ _ hP hD hS (lv_sub hl [0, 1, 2, 3, 4] rfl)
            exact L_17 _ _ _ hf _ _ _ hP hD hS (lv_sub hl [0, 1, 2, 3, 4] rfl)
      exact L_12 _ _ _ hf _ _ _ hP hD hS (lv_sub hl [0, 1, 2, 3] rfl)
    · have hf := ip c9 hf
      refine lv_aload_n hx hb dX4_tense_21 rfl (lv_at hl 0 rfl) ?_
      refine lv_iconst (v := (0 : Int32)) hx hb dX4_tense_22 (by decide) ?_
      obtain ⟨r27, m28, hc26, hf⟩ := bd2_some hf
      refine cV (X := List.take 0 (wX4 E a m0)) (Y := List.drop 12 (wX4 E a m0)) (w := (wX4 E a m0)) (w' := (wX4 E a m28)) (q0 := 0) lk_X4_92 hx hb hml hown hE hA (c_X4_finds l E a m0 (0 : Int32) r27 m28 hc26) rfl rfl hP hD hS rfl rfl ⟨rfl, rfl, Nat.le_of_ble_eq_true rfl, Nat.le_of_ble_eq_true rfl⟩ hl.1 (As := [.int (0 : Int32)]) (rest := []) rfl rfl (Nat.le_of_ble_eq_true rfl) ⟨Nat.zero_le _, Nat.zero_le _⟩ dX4_tense_23 (fun H locs hP hD hS => ?_)
      refine W.eq (g2 := F0 m 26 ls [.int r27]) rfl ?_
      obtain ⟨rfl, rfl⟩ := so2 hf
      exact rt_i hx hb hr hlocks hP hD hS dX4_tense_26
def lp_X4_best_33 (m7 : MS) : Nat → (Int32) → (Int32) → Option (Int32 × MS)
  | 0, _, _ => none
  | k_8 + 1, v3_8, v2_8 => gd (0 : Int32) 67 (if ((g4_d m7) (0 : Int32).toNatClampNeg) ≤ v3_8 then bd1 (f_X4_copies_aside_d m7) (fun m12 => if 0 ≤ v2_8 then some (v2_8, m12) else bd2 (f_X4_finds m12 (3 : Int32)) (fun r15 m16 => some (r15, m16))) else bd1 (if v2_8 < 0 then some (v3_8) else bd1 (f_X4_its m7 v3_8 (2 : Int32)) (fun r22 => bd1 (f_X4_its m7 v2_8 (2 : Int32)) (fun r24 => if r22 ≤ r24 then some (v2_8) else some (v3_8)))) (fun x18 => lp_X4_best_33 m7 k_8 (v3_8 + (1 : Int32)) x18))
def f_X4_best (m0 : MS) (p1 : Int32) : Option (Int32 × MS) := bd1 (f_X4_isAhead p1) (fun r2 => if (bI r2) = 0 then bd2 (f_X4_finds m0 (0 : Int32)) (fun r27 m28 => some (r27, m28)) else bd1 (f_X4_copies_d_aside m0) (fun m5 => bd1 (f_X4_momentsGo m5 p1) (fun m7 => lp_X4_best_33 m7 FU (0 : Int32) (-1 : Int32))))
set_option maxHeartbeats 4000000 in
set_option maxRecDepth 100000 in
theorem c_X4_best (l : Launch) (E : EV) (a : Nat → Nat) (m0 : MS) (p1 : Int32)  (r : Int32) (m0' : MS) (hf : f_X4_best m0 p1 = some (r, m0')) : Ct l E yX4_best cX4_best 4 ((Option.some FieldType.int)) (rmk 6 137) [.ref (a 0), .int p1] (wX4 E a m0) (wX4 E a m0') (some (.int r)) := by
  refine Ct.of (by decide) (Nat.le_of_ble_eq_true rfl) ?_
  intro p e s m below meth c A ls hC hP hD hl
  obtain ⟨hx, hb, hr, hml, hown, hlocks, hE, hA⟩ := hC
  have hts : ∀ w ∈ tbl, w.before [.ref (a 0), .int p1].toArray s = true := fun w hw => hE.w hw
  have hS : va_S A s.heap s.heap [] := va_S.rf
  have hl : lv_has ls 4 [(0, .ref (a 0)), (1, .int p1)] := hl
  unfold f_X4_best at hf
  refine lv_iload_n hx hb dX4_best_0 rfl (lv_at hl 1 rfl) ?_
  obtain ⟨r2, hc1, hf⟩ := bd1_some hf
  refine cS (X := List.take 0 (wX4 E a m0)) (Y := List.drop 0 (wX4 E a m0)) (w := (wX4 E a m0)) (w' := (wX4 E a m0)) lk_X4_137 hx hb hml hown hE hA (c_X4_isAhead l E p1 r2 hc1) rfl rfl hP hD hS ⟨rfl, rfl, Nat.le_of_ble_eq_true rfl, Nat.le_of_ble_eq_true rfl⟩ hl.1 (As := [.int p1]) (rest := []) rfl rfl (Nat.le_of_ble_eq_true rfl) ⟨Nat.zero_le _, Nat.zero_le _⟩ dX4_best_1 (fun H locs hP hD hS => ?_)
  refine W.eq (g2 := F0 m 4 ls [.int (bI r2)]) rfl ?_
  refine lv_if_ne (tgt := 13) hx hb dX4_best_4 (by decide) (fun c3 => ?_) (fun c3 => ?_)
  · have hf := im c3 hf
    refine lv_aload_n hx hb dX4_best_13 rfl (lv_at hl 0 rfl) ?_
    refine va_get (D := E.1) (ci := 4) (v := .ref (a 1)) (C := RX4) (T := TX4) (N := 18) hx hb hts inX4 hown hE.2.1 hP 0 rfl rfl 0 (by decide) (hE.w tw_598) (fun _ h9 => h9) rfl dX4_best_14 ?_
    refine lv_aload_n hx hb dX4_best_17 rfl (lv_at hl 0 rfl) ?_
    refine va_get (D := E.1) (ci := 4) (v := .ref (a 3)) (C := RX4) (T := TX4) (N := 18) hx hb hts inX4 hown hE.2.1 hP 0 rfl rfl 2 (by decide) (hE.w tw_600) (fun _ h9 => h9) rfl dX4_best_18 ?_
    obtain ⟨m5, hc4, hf⟩ := bd1_some hf
    refine cS (X := List.take 0 (wX4 E a m0)) (Y := List.drop 12 (wX4 E a m0)) (w := (wX4 E a m0)) (w' := (wX4 E a m5)) lk_X4_129 hx hb hml hown hE hA (c_X4_copies_d_aside l E a m0 m5 hc4) rfl rfl hP hD hS ⟨rfl, rfl, Nat.le_of_ble_eq_true rfl, Nat.le_of_ble_eq_true rfl⟩ hl.1 (As := [.ref (a 1), .ref (a 3)]) (rest := []) rfl rfl (Nat.le_of_ble_eq_true rfl) ⟨Nat.zero_le _, Nat.zero_le _⟩ dX4_best_21 (fun H locs hP hD hS => ?_)
    refine W.eq (g2 := F0 m 24 ls []) rfl ?_
    refine lv_aload_n hx hb dX4_best_24 rfl (lv_at hl 0 rfl) ?_
    refine lv_iload_n hx hb dX4_best_25 rfl (lv_at hl 1 rfl) ?_
    obtain ⟨m7, hc6, hf⟩ := bd1_some hf
    refine cV (X := List.take 0 (wX4 E a m5)) (Y := List.drop 12 (wX4 E a m5)) (w := (wX4 E a m5)) (w' := (wX4 E a m7)) (q0 := 0) lk_X4_125 hx hb hml hown hE hA (c_X4_momentsGo l E a m5 p1 m7 hc6) rfl rfl hP hD hS rfl rfl ⟨rfl, rfl, Nat.le_of_ble_eq_true rfl, Nat.le_of_ble_eq_true rfl⟩ hl.1 (As := [.int p1]) (rest := []) rfl rfl (Nat.le_of_ble_eq_true rfl) ⟨Nat.zero_le _, Nat.zero_le _⟩ dX4_best_26 (fun H locs hP hD hS => ?_)
    refine W.eq (g2 := F0 m 29 ls []) rfl ?_
    refine lv_iconst (v := (-1 : Int32)) hx hb dX4_best_29 (by decide) ?_
    refine lv_istore_n (lv' := [(2, .int (-1 : Int32)), (0, .ref (a 0)), (1, .int p1)]) hx hb dX4_best_30 rfl hl (by decide) rfl (fun ls hl => ?_)
    refine lv_iconst (v := (0 : Int32)) hx hb dX4_best_31 (by decide) ?_
    refine lv_istore_n (lv' := [(3, .int (0 : Int32)), (2, .int (-1 : Int32)), (0, .ref (a 0)), (1, .int p1)]) hx hb dX4_best_32 rfl hl (by decide) rfl (fun ls hl => ?_)
    have L_8 : ∀ (k_8 : Nat) (v3_8 : Int32) (v2_8 : Int32), lp_X4_best_33 m7 k_8 v3_8 v2_8 = some (r, m0') → ∀ (H : Heap) (locs : List Loc) (ls : Array Slot), va_P E.1 vwCl (wX4 E a m7) H → va_D A (wX4 E a m7) → va_S A s.heap H locs → lv_has ls 4 [(3, .int v3_8), (2, .int v2_8), (0, .ref (a 0)), (1, .int p1)] → W p l e (rmk 6 137) s m [.ref (a 0), .int p1].toArray below meth c H locs 0 0 (MQ below (Qct E A (wX4 E a m0') (some (.int r))) [.ref (a 0), .int p1].toArray s 0 0 A) (F0 m 33 ls []) := by
      intro k_8
      induction k_8 with
      | zero =>
        intro v3_8 v2_8 hf
        rw [lp_X4_best_33] at hf
        cases hf
      | succ k_8 ih_8 =>
        intro v3_8 v2_8 hf H locs ls hP hD hS hl
        rw [lp_X4_best_33] at hf
        refine lv_iload_n hx hb dX4_best_33 rfl (lv_at hl 0 rfl) ?_
        refine lv_aload_n hx hb dX4_best_34 rfl (lv_at hl 2 rfl) ?_
        refine va_get (D := E.1) (ci := 4) (v := .ref (a 1)) (C := RX4) (T := TX4) (N := 18) hx hb hts inX4 hown hE.2.1 hP 0 rfl rfl 0 (by decide) (hE.w tw_598) (fun _ h9 => h9) rfl dX4_best_35 ?_
        refine lv_iconst (v := (0 : Int32)) hx hb dX4_best_38 (by decide) ?_
        obtain ⟨hg9, hf⟩ := gd_some hf
        refine va_iald hx hb hE.2.1 hP 1 0 rfl rfl hg9 dX4_best_39 ?_
        refine lv_icmp_ge (tgt := 74) hx hb dX4_best_40 (by decide) (fun c10 => ?_) (fun c10 => ?_)
        · have hf := ip c10 hf
          refine lv_aload_n hx hb dX4_best_74 rfl (lv_at hl 2 rfl) ?_
          refine va_get (D := E.1) (ci := 4) (v := .ref (a 3)) (C := RX4) (T := TX4) (N := 18) hx hb hts inX4 hown hE.2.1 hP 0 rfl rfl 2 (by decide) (hE.w tw_600) (fun _ h9 => h9) rfl dX4_best_75 ?_
          refine lv_aload_n hx hb dX4_best_78 rfl (lv_at hl 2 rfl) ?_
          refine va_get (D := E.1) (ci := 4) (v := .ref (a 1)) (C := RX4) (T := TX4) (N := 18) hx hb hts inX4 hown hE.2.1 hP 0 rfl rfl 0 (by decide) (hE.w tw_598) (fun _ h9 => h9) rfl dX4_best_79 ?_
          obtain ⟨m12, hc11, hf⟩ := bd1_some hf
          refine cS (X := List.take 0 (wX4 E a m7)) (Y := List.drop 12 (wX4 E a m7)) (w := (wX4 E a m7)) (w' := (wX4 E a m12)) lk_X4_129 hx hb hml hown hE hA (c_X4_copies_aside_d l E a m7 m12 hc11) rfl rfl hP hD hS ⟨rfl, rfl, Nat.le_of_ble_eq_true rfl, Nat.le_of_ble_eq_true rfl⟩ hl.1 (As := [.ref (a 3), .ref (a 1)]) (rest := []) rfl rfl (Nat.le_of_ble_eq_true rfl) ⟨Nat.zero_le _, Nat.zero_le _⟩ dX4_best_82 (fun H locs hP hD hS => ?_)
          refine W.eq (g2 := F0 m 85 ls []) rfl ?_
          refine lv_iload_n hx hb dX4_best_85 rfl (lv_at hl 1 rfl) ?_
          refine lv_if_ge (tgt := 97) hx hb dX4_best_86 (by decide) (fun c13 => ?_) (fun c13 => ?_)
          · have hf := ip c13 hf
            refine lv_iload_n hx hb dX4_best_97 rfl (lv_at hl 1 rfl) ?_
            obtain ⟨rfl, rfl⟩ := so2 hf
            exact rt_i hx hb hr hlocks hP hD hS dX4_best_98
          · have hf := im c13 hf
            refine lv_aload_n hx hb dX4_best_89 rfl (lv_at hl 2 rfl) ?_
            refine lv_iconst (v := (3 : Int32)) hx hb dX4_best_90 (by decide) ?_
            obtain ⟨r15, m16, hc14, hf⟩ := bd2_some hf
            refine cV (X := List.take 0 (wX4 E a m12)) (Y := List.drop 12 (wX4 E a m12)) (w := (wX4 E a m12)) (w' := (wX4 E a m16)) (q0 := 0) lk_X4_92 hx hb hml hown hE hA (c_X4_finds l E a m12 (3 : Int32) r15 m16 hc14) rfl rfl hP hD hS rfl rfl ⟨rfl, rfl, Nat.le_of_ble_eq_true rfl, Nat.le_of_ble_eq_true rfl⟩ hl.1 (As := [.int (3 : Int32)]) (rest := []) rfl rfl (Nat.le_of_ble_eq_true rfl) ⟨Nat.zero_le _, Nat.zero_le _⟩ dX4_best_91 (fun H locs hP hD hS => ?_)
            refine W.eq (g2 := F0 m 94 ls [.int r15]) rfl ?_
            refine lv_goto (tgt := 98) hx hb dX4_best_94 (by decide) ?_
            obtain ⟨rfl, rfl⟩ := so2 hf
            exact rt_i hx hb hr hlocks hP hD hS dX4_best_98
        · have hf := im c10 hf
          refine lv_iload_n hx hb dX4_best_43 rfl (lv_at hl 1 rfl) ?_
          obtain ⟨x18, hq20, hf⟩ := bd1_some hf
          have J19 : ∀ (H : Heap) (locs : List Loc) (ls : Array Slot), va_P E.1 vwCl (wX4 E a m7) H → va_D A (wX4 E a m7) → va_S A s.heap H locs → lv_has ls 4 [(3, .int v3_8), (2, .int v2_8), (0, .ref (a 0)), (1, .int p1)] → W p l e (rmk 6 137) s m [.ref (a 0), .int p1].toArray below meth c H locs 0 0 (MQ below (Qct E A (wX4 E a m0') (some (.int r))) [.ref (a 0), .int p1].toArray s 0 0 A) (F0 m 67 ls [.int x18]) := by
            intro H locs ls hP hD hS hl
            refine lv_istore_n (lv' := [(2, .int x18), (3, .int v3_8), (0, .ref (a 0)), (1, .int p1)]) hx hb dX4_best_67 rfl hl (by decide) rfl (fun ls hl => ?_)
            refine lv_iinc (v := (v3_8 + (1 : Int32))) (lv' := [(3, .int (v3_8 + (1 : Int32))), (2, .int x18), (0, .ref (a 0)), (1, .int p1)]) hx hb dX4_best_68 hl (k := 1) rfl rfl (by decide) rfl (fun ls hl => ?_)
            refine lv_goto (tgt := 33) hx hb dX4_best_71 (by decide) ?_
            exact ih_8 _ _ hf _ _ _ hP hD hS (lv_sub hl [0, 1, 2, 3] rfl)
          refine lv_if_lt (tgt := 62) hx hb dX4_best_44 (by decide) (fun c17 => ?_) (fun c17 => ?_)
          · have hq20 := ip c17 hq20
            refine lv_iload_n hx hb dX4_best_62 rfl (lv_at hl 0 rfl) ?_
            refine lv_goto (tgt := 67) hx hb dX4_best_63 (by decide) ?_
            obtain rfl := so1 hq20
            exact J19 _ _ _ hP hD hS (lv_sub hl [0, 1, 2, 3] rfl)
          · have hq20 := im c17 hq20
            refine lv_aload_n hx hb dX4_best_47 rfl (lv_at hl 2 rfl) ?_
            refine lv_iload_n hx hb dX4_best_48 rfl (lv_at hl 0 rfl) ?_
            refine lv_iconst (v := (2 : Int32)) hx hb dX4_best_49 (by decide) ?_
            obtain ⟨r22, hc21, hq20⟩ := bd1_some hq20
            refine cV (X := List.take 0 (wX4 E a m7)) (Y := List.drop 12 (wX4 E a m7)) (w := (wX4 E a m7)) (w' := (wX4 E a m7)) (q0 := 0) lk_X4_54 hx hb hml hown hE hA (c_X4_its l E a m7 v3_8 (2 : Int32) r22 hc21) rfl rfl hP hD hS rfl rfl ⟨rfl, rfl, Nat.le_of_ble_eq_true rfl, Nat.le_of_ble_eq_true rfl⟩ hl.1 (As := [.int v3_8, .int (2 : Int32)]) (rest := []) rfl rfl (Nat.le_of_ble_eq_true rfl) ⟨Nat.zero_le _, Nat.zero_le _⟩ dX4_best_50 (fun H locs hP hD hS => ?_)
            refine W.eq (g2 := F0 m 53 ls [.int r22]) rfl ?_
            refine lv_aload_n hx hb dX4_best_53 rfl (lv_at hl 2 rfl) ?_
            refine lv_iload_n hx hb dX4_best_54 rfl (lv_at hl 1 rfl) ?_
            refine lv_iconst (v := (2 : Int32)) hx hb dX4_best_55 (by decide) ?_
            obtain ⟨r24, hc23, hq20⟩ := bd1_some hq20
            refine cV (X := List.take 0 (wX4 E a m7)) (Y := List.drop 12 (wX4 E a m7)) (w := (wX4 E a m7)) (w' := (wX4 E a m7)) (q0 := 0) lk_X4_54 hx hb hml hown hE hA (c_X4_its l E a m7 v2_8 (2 : Int32) r24 hc23) rfl rfl hP hD hS rfl rfl ⟨rfl, rfl, Nat.le_of_ble_eq_true rfl, Nat.le_of_ble_eq_true rfl⟩ hl.1 (As := [.int v2_8, .int (2 : Int32)]) (rest := [.int r22]) rfl rfl (Nat.le_of_ble_eq_true rfl) ⟨Nat.zero_le _, Nat.zero_le _⟩ dX4_best_56 (fun H locs hP hD hS => ?_)
            refine W.eq (g2 := F0 m 59 ls [.int r24, .int r22]) rfl ?_
            refine lv_icmp_le (tgt := 66) hx hb dX4_best_59 (by decide) (fun c25 => ?_) (fun c25 => ?_)
            · have hq20 := ip c25 hq20
              refine lv_iload_n hx hb dX4_best_66 rfl (lv_at hl 1 rfl) ?_
              obtain rfl := so1 hq20
              exact J19 _ _ _ hP hD hS (lv_sub hl [0, 1, 2, 3] rfl)
            · have hq20 := im c25 hq20
              refine lv_iload_n hx hb dX4_best_62 rfl (lv_at hl 0 rfl) ?_
              refine lv_goto (tgt := 67) hx hb dX4_best_63 (by decide) ?_
              obtain rfl := so1 hq20
              exact J19 _ _ _ hP hD hS (lv_sub hl [0, 1, 2, 3] rfl)
    exact L_8 _ _ _ hf _ _ _ hP hD hS (lv_sub hl [0, 1, 2, 3] rfl)
  · have hf := ip c3 hf
    refine lv_aload_n hx hb dX4_best_7 rfl (lv_at hl 0 rfl) ?_
    refine lv_iconst (v := (0 : Int32)) hx hb dX4_best_8 (by decide) ?_
    obtain ⟨r27, m28, hc26, hf⟩ := bd2_some hf
    refine cV (X := List.take 0 (wX4 E a m0)) (Y := List.drop 12 (wX4 E a m0)) (w := (wX4 E a m0)) (w' := (wX4 E a m28)) (q0 := 0) lk_X4_92 hx hb hml hown hE hA (c_X4_finds l E a m0 (0 : Int32) r27 m28 hc26) rfl rfl hP hD hS rfl rfl ⟨rfl, rfl, Nat.le_of_ble_eq_true rfl, Nat.le_of_ble_eq_true rfl⟩ hl.1 (As := [.int (0 : Int32)]) (rest := []) rfl rfl (Nat.le_of_ble_eq_true rfl) ⟨Nat.zero_le _, Nat.zero_le _⟩ dX4_best_9 (fun H locs hP hD hS => ?_)
    refine W.eq (g2 := F0 m 12 ls [.int r27]) rfl ?_
    obtain ⟨rfl, rfl⟩ := so2 hf
    exact rt_i hx hb hr hlocks hP hD hS dX4_best_12
