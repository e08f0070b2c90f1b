def f_X4_personHere (m0 : MS) (p1 : Int32) : Option (MS) := gd (0 : Int32) 67 (if ((g4_d m0) (0 : Int32).toNatClampNeg) = (8 : Int32) then bd1 (f_X4_wrongHere m0) (fun m19 => some (m19)) else bd1 (f_X4_next m0) (fun m4 => bd2 (f_X4_comesIn m4 p1) (fun r6 m7 => bd1 (f_X4_isWord m7 (3547106 : Int64)) (fun r9 => if (bI r9) = 0 then some (m7) else bd1 (f_X4_next m7) (fun m12 => bd2 (f_X4_numberHere m12 (0 : Int32) (99 : Int32)) (fun r14 m15 => bd1 (f_X4_sets m15 r6 (1 : Int32) r14) (fun m17 => some (m17))))))))
set_option maxHeartbeats 4000000 in
set_option maxRecDepth 100000 in
theorem c_X4_personHere (l : Launch) (E : EV) (a : Nat → Nat) (m0 : MS) (p1 : Int32)  (m0' : MS) (hf : f_X4_personHere m0 p1 = some m0') : Ct l E yX4_personHere cX4_personHere 3 (none) (rmk 3 65) [.ref (a 0), .int p1] (wX4 E a m0) (wX4 E a m0') none := by
  refine Ct.of (by decide) (Nat.le_of_ble_eq_true rfl) ?_
  intro p e s m below meth c A ls hC hP hD hl
  obtain ⟨hx, hb, hr, hml, hown, hlocks, hE, hA⟩ := hC
  have hts : ∀ w ∈ tbl, w.before [.ref (a 0), .int p1].toArray s = true := fun w hw => hE.w hw
  have hS : va_S A s.heap s.heap [] := va_S.rf
  have hl : lv_has ls 3 [(0, .ref (a 0)), (1, .int p1)] := hl
  unfold f_X4_personHere at hf
  refine lv_aload_n hx hb dX4_personHere_0 rfl (lv_at hl 0 rfl) ?_
  refine va_get (D := E.1) (ci := 4) (v := .ref (a 1)) (C := RX4) (T := TX4) (N := 18) hx hb hts inX4 hown hE.2.1 hP 0 rfl rfl 0 (by decide) (hE.w tw_598) (fun _ h9 => h9) rfl dX4_personHere_1 ?_
  refine lv_iconst (v := (0 : Int32)) hx hb dX4_personHere_4 (by decide) ?_
  obtain ⟨hg1, hf⟩ := gd_some hf
  refine va_iald hx hb hE.2.1 hP 1 0 rfl rfl hg1 dX4_personHere_5 ?_
  refine lv_bipush (v := (8 : Int32)) hx hb dX4_personHere_6 (by decide) ?_
  refine lv_icmp_ne (tgt := 16) hx hb dX4_personHere_8 (by decide) (fun c2 => ?_) (fun c2 => ?_)
  · have hf := im c2 hf
    refine lv_aload_n hx hb dX4_personHere_16 rfl (lv_at hl 0 rfl) ?_
    obtain ⟨m4, hc3, hf⟩ := bd1_some hf
    refine cV (X := List.take 0 (wX4 E a m0)) (Y := List.drop 12 (wX4 E a m0)) (w := (wX4 E a m0)) (w' := (wX4 E a m4)) (q0 := 0) lk_X4_224 hx hb hml hown hE hA (c_X4_next l E a m0 m4 hc3) rfl rfl hP hD hS rfl rfl ⟨rfl, rfl, Nat.le_of_ble_eq_true rfl, Nat.le_of_ble_eq_true rfl⟩ hl.1 (As := []) (rest := []) rfl rfl (Nat.le_of_ble_eq_true rfl) ⟨Nat.zero_le _, Nat.zero_le _⟩ dX4_personHere_17 (fun H locs hP hD hS => ?_)
    refine W.eq (g2 := F0 m 20 ls []) rfl ?_
    refine lv_aload_n hx hb dX4_personHere_20 rfl (lv_at hl 0 rfl) ?_
    refine lv_iload_n hx hb dX4_personHere_21 rfl (lv_at hl 1 rfl) ?_
    obtain ⟨r6, m7, hc5, hf⟩ := bd2_some hf
    refine cV (X := List.take 0 (wX4 E a m4)) (Y := List.drop 12 (wX4 E a m4)) (w := (wX4 E a m4)) (w' := (wX4 E a m7)) (q0 := 0) lk_X4_107 hx hb hml hown hE hA (c_X4_comesIn l E a m4 p1 r6 m7 hc5) rfl rfl hP hD hS rfl rfl ⟨rfl, rfl, Nat.le_of_ble_eq_true rfl, Nat.le_of_ble_eq_true rfl⟩ hl.1 (As := [.int p1]) (rest := []) rfl rfl (Nat.le_of_ble_eq_true rfl) ⟨Nat.zero_le _, Nat.zero_le _⟩ dX4_personHere_22 (fun H locs hP hD hS => ?_)
    refine W.eq (g2 := F0 m 25 ls [.int r6]) rfl ?_
    refine lv_istore_n (lv' := [(2, .int r6), (0, .ref (a 0)), (1, .int p1)]) hx hb dX4_personHere_25 rfl hl (by decide) rfl (fun ls hl => ?_)
    refine lv_aload_n hx hb dX4_personHere_26 rfl (lv_at hl 1 rfl) ?_
    refine lv_ldc2 (v := (3547106 : Int64)) hx hb hown (hE.w tw_913) dX4_personHere_27 ?_
    obtain ⟨r9, hc8, hf⟩ := bd1_some hf
    refine cV (X := List.take 0 (wX4 E a m7)) (Y := List.drop 12 (wX4 E a m7)) (w := (wX4 E a m7)) (w' := (wX4 E a m7)) (q0 := 0) lk_X4_197 hx hb hml hown hE hA (c_X4_isWord l E a m7 (3547106 : Int64) r9 hc8) rfl rfl hP hD hS rfl rfl ⟨rfl, rfl, Nat.le_of_ble_eq_true rfl, Nat.le_of_ble_eq_true rfl⟩ hl.1 (As := [.long (3547106 : Int64)]) (rest := []) rfl rfl (Nat.le_of_ble_eq_true rfl) ⟨Nat.zero_le _, Nat.zero_le _⟩ dX4_personHere_30 (fun H locs hP hD hS => ?_)
    refine W.eq (g2 := F0 m 33 ls [.int (bI r9)]) rfl ?_
    refine lv_if_eq (tgt := 53) hx hb dX4_personHere_33 (by decide) (fun c10 => ?_) (fun c10 => ?_)
    · have hf := ip c10 hf
      obtain rfl := so1 hf
      exact rt_v hx hb hr hlocks hP hD hS dX4_personHere_53
    · have hf := im c10 hf
      refine lv_aload_n hx hb dX4_personHere_36 rfl (lv_at hl 1 rfl) ?_
      obtain ⟨m12, hc11, hf⟩ := bd1_some hf
      refine cV (X := List.take 0 (wX4 E a m7)) (Y := List.drop 12 (wX4 E a m7)) (w := (wX4 E a m7)) (w' := (wX4 E a m12)) (q0 := 0) lk_X4_224 hx hb hml hown hE hA (c_X4_next l E a m7 m12 hc11) rfl rfl hP hD hS rfl rfl ⟨rfl, rfl, Nat.le_of_ble_eq_true rfl, Nat.le_of_ble_eq_true rfl⟩ hl.1 (As := []) (rest := []) rfl rfl (Nat.le_of_ble_eq_true rfl) ⟨Nat.zero_le _, Nat.zero_le _⟩ dX4_personHere_37 (fun H locs hP hD hS => ?_)
      refine W.eq (g2 := F0 m 40 ls []) rfl ?_
      refine lv_aload_n hx hb dX4_personHere_40 rfl (lv_at hl 1 rfl) ?_
      refine lv_iload_n hx hb dX4_personHere_41 rfl (lv_at hl 0 rfl) ?_
      refine lv_iconst (v := (1 : Int32)) hx hb dX4_personHere_42 (by decide) ?_
      refine lv_aload_n hx hb dX4_personHere_43 rfl (lv_at hl 1 rfl) ?_
      refine lv_iconst (v := (0 : Int32)) hx hb dX4_personHere_44 (by decide) ?_
      refine lv_bipush (v := (99 : Int32)) hx hb dX4_personHere_45 (by decide) ?_
      obtain ⟨r14, m15, hc13, hf⟩ := bd2_some hf
      refine cV (X := List.take 0 (wX4 E a m12)) (Y := List.drop 12 (wX4 E a m12)) (w := (wX4 E a m12)) (w' := (wX4 E a m15)) (q0 := 0) lk_X4_229 hx hb hml hown hE hA (c_X4_numberHere l E a m12 (0 : Int32) (99 : Int32) r14 m15 hc13) rfl rfl hP hD hS rfl rfl ⟨rfl, rfl, Nat.le_of_ble_eq_true rfl, Nat.le_of_ble_eq_true rfl⟩ hl.1 (As := [.int (0 : Int32), .int (99 : Int32)]) (rest := [.int (1 : Int32), .int r6, .ref (a 0)]) rfl rfl (Nat.le_of_ble_eq_true rfl) ⟨Nat.zero_le _, Nat.zero_le _⟩ dX4_personHere_47 (fun H locs hP hD hS => ?_)
      refine W.eq (g2 := F0 m 50 ls [.int r14, .int (1 : Int32), .int r6, .ref (a 0)]) rfl ?_
      obtain ⟨m17, hc16, hf⟩ := bd1_some hf
      refine cV (X := List.take 0 (wX4 E a m15)) (Y := List.drop 12 (wX4 E a m15)) (w := (wX4 E a m15)) (w' := (wX4 E a m17)) (q0 := 0) lk_X4_73 hx hb hml hown hE hA (c_X4_sets l E a m15 r6 (1 : Int32) r14 m17 hc16) rfl rfl hP hD hS rfl rfl ⟨rfl, rfl, Nat.le_of_ble_eq_true rfl, Nat.le_of_ble_eq_true rfl⟩ hl.1 (As := [.int r6, .int (1 : Int32), .int r14]) (rest := []) rfl rfl (Nat.le_of_ble_eq_true rfl) ⟨Nat.zero_le _, Nat.zero_le _⟩ dX4_personHere_50 (fun H locs hP hD hS => ?_)
      refine W.eq (g2 := F0 m 53 ls []) rfl ?_
      obtain rfl := so1 hf
      exact rt_v hx hb hr hlocks hP hD hS dX4_personHere_53
  · have hf := ip c2 hf
    refine lv_aload_n hx hb dX4_personHere_11 rfl (lv_at hl 0 rfl) ?_
    obtain ⟨m19, hc18, hf⟩ := bd1_some hf
    refine cV (X := List.take 0 (wX4 E a m0)) (Y := List.drop 12 (wX4 E a m0)) (w := (wX4 E a m0)) (w' := (wX4 E a m19)) (q0 := 0) lk_X4_221 hx hb hml hown hE hA (c_X4_wrongHere l E a m0 m19 hc18) rfl rfl hP hD hS rfl rfl ⟨rfl, rfl, Nat.le_of_ble_eq_true rfl, Nat.le_of_ble_eq_true rfl⟩ hl.1 (As := []) (rest := []) rfl rfl (Nat.le_of_ble_eq_true rfl) ⟨Nat.zero_le _, Nat.zero_le _⟩ dX4_personHere_12 (fun H locs hP hD hS => ?_)
    refine W.eq (g2 := F0 m 15 ls []) rfl ?_
    obtain rfl := so1 hf
    exact rt_v hx hb hr hlocks hP hD hS dX4_personHere_15
def f_X4_cueItem (m0 : MS) : Option (MS) := bd1 (f_X4_next m0) (fun m2 => bd2 (f_X4_numberHere m2 (0 : Int32) (15 : Int32)) (fun r4 m5 => bd1 (if 0 ≤ (g4_fault m5) then some ((0 : Int32)) else bd1 (f_X4_cueHere m5) (fun r11 => some (r11))) (fun x7 => bd1 (if 0 ≤ (g4_fault m5) then some (m5) else if 0 ≤ x7 then some (m5) else bd1 (f_X4_wrongHere m5) (fun m18 => some (m18))) (fun m013 => if 0 ≤ (g4_fault m013) then some (m013) else gd ((3 : Int32) + r4) 67 (jn1 (s4_d m013 (upd (g4_d m013) ((3 : Int32) + r4).toNatClampNeg x7)) (fun m_21 => bd1 (f_X4_next m_21) (fun m23 => some (m23))))))))
set_option maxHeartbeats 4000000 in
set_option maxRecDepth 100000 in
theorem c_X4_cueItem (l : Launch) (E : EV) (a : Nat → Nat) (m0 : MS)  (m0' : MS) (hf : f_X4_cueItem m0 = some m0') : Ct l E yX4_cueItem cX4_cueItem 3 (none) (rmk 3 65) [.ref (a 0)] (wX4 E a m0) (wX4 E a m0') none := by
  refine Ct.of (by decide) (Nat.le_of_ble_eq_true rfl) ?_
  intro p e s m below meth c A ls hC hP hD hl
  obtain ⟨hx, hb, hr, hml, hown, hlocks, hE, hA⟩ := hC
  have hts : ∀ w ∈ tbl, w.before [.ref (a 0)].toArray s = true := fun w hw => hE.w hw
  have hS : va_S A s.heap s.heap [] := va_S.rf
  have hl : lv_has ls 3 [(0, .ref (a 0))] := hl
  unfold f_X4_cueItem at hf
  refine lv_aload_n hx hb dX4_cueItem_0 rfl (lv_at hl 0 rfl) ?_
  obtain ⟨m2, hc1, hf⟩ := bd1_some hf
  refine cV (X := List.take 0 (wX4 E a m0)) (Y := List.drop 12 (wX4 E a m0)) (w := (wX4 E a m0)) (w' := (wX4 E a m2)) (q0 := 0) lk_X4_224 hx hb hml hown hE hA (c_X4_next l E a m0 m2 hc1) rfl rfl hP hD hS rfl rfl ⟨rfl, rfl, Nat.le_of_ble_eq_true rfl, Nat.le_of_ble_eq_true rfl⟩ hl.1 (As := []) (rest := []) rfl rfl (Nat.le_of_ble_eq_true rfl) ⟨Nat.zero_le _, Nat.zero_le _⟩ dX4_cueItem_1 (fun H locs hP hD hS => ?_)
  refine W.eq (g2 := F0 m 4 ls []) rfl ?_
  refine lv_aload_n hx hb dX4_cueItem_4 rfl (lv_at hl 0 rfl) ?_
  refine lv_iconst (v := (0 : Int32)) hx hb dX4_cueItem_5 (by decide) ?_
  refine lv_bipush (v := (15 : Int32)) hx hb dX4_cueItem_6 (by decide) ?_
  obtain ⟨r4, m5, hc3, hf⟩ := bd2_some hf
  refine cV (X := List.take 0 (wX4 E a m2)) (Y := List.drop 12 (wX4 E a m2)) (w := (wX4 E a m2)) (w' := (wX4 E a m5)) (q0 := 0) lk_X4_229 hx hb hml hown hE hA (c_X4_numberHere l E a m2 (0 : Int32) (15 : Int32) r4 m5 hc3) rfl rfl hP hD hS rfl rfl ⟨rfl, rfl, Nat.le_of_ble_eq_true rfl, Nat.le_of_ble_eq_true rfl⟩ hl.1 (As := [.int (0 : Int32), .int (15 : Int32)]) (rest := []) rfl rfl (Nat.le_of_ble_eq_true rfl) ⟨Nat.zero_le _, Nat.zero_le _⟩ dX4_cueItem_8 (fun H locs hP hD hS => ?_)
  refine W.eq (g2 := F0 m 11 ls [.int r4]) rfl ?_
  refine lv_istore_n (lv' := [(1, .int r4), (0, .ref (a 0))]) hx hb dX4_cueItem_11 rfl hl (by decide) rfl (fun ls hl => ?_)
  refine lv_aload_n hx hb dX4_cueItem_12 rfl (lv_at hl 1 rfl) ?_
  refine va_get (D := E.1) (ci := 4) (v := .int (g4_fault m5)) (C := RX4) (T := TX4) (N := 18) hx hb hts inX4 hown hE.2.1 hP 0 rfl rfl 13 (by decide) (hE.w tw_611) (fun _ h9 => h9) rfl dX4_cueItem_13 ?_
  obtain ⟨x7, hq9, hf⟩ := bd1_some hf
  have J8 : ∀ (H : Heap) (locs : List Loc) (ls : Array Slot), va_P E.1 vwCl (wX4 E a m5) H → va_D A (wX4 E a m5) → va_S A s.heap H locs → lv_has ls 3 [(1, .int r4), (0, .ref (a 0))] → W p l e (rmk 3 65) s m [.ref (a 0)].toArray below meth c H locs 0 0 (MQ below (Qct E A (wX4 E a m0') none) [.ref (a 0)].toArray s 0 0 A) (F0 m 27 ls [.int x7]) := by
    intro H locs ls hP hD hS hl
    refine lv_istore_n (lv' := [(2, .int x7), (1, .int r4), (0, .ref (a 0))]) hx hb dX4_cueItem_27 rfl hl (by decide) rfl (fun ls hl => ?_)
    refine lv_aload_n hx hb dX4_cueItem_28 rfl (lv_at hl 2 rfl) ?_
    refine va_get (D := E.1) (ci := 4) (v := .int (g4_fault m5)) (C := RX4) (T := TX4) (N := 18) hx hb hts inX4 hown hE.2.1 hP 0 rfl rfl 13 (by decide) (hE.w tw_611) (fun _ h9 => h9) rfl dX4_cueItem_29 ?_
    obtain ⟨m013, hq15, hf⟩ := bd1_some hf
    have J14 : ∀ (H : Heap) (locs : List Loc) (ls : Array Slot), va_P E.1 vwCl (wX4 E a m013) H → va_D A (wX4 E a m013) → va_S A s.heap H locs → lv_has ls 3 [(2, .int x7), (1, .int r4), (0, .ref (a 0))] → W p l e (rmk 3 65) s m [.ref (a 0)].toArray below meth c H locs 0 0 (MQ below (Qct E A (wX4 E a m0') none) [.ref (a 0)].toArray s 0 0 A) (F0 m 43 ls []) := by
      intro H locs ls hP hD hS hl
      refine lv_aload_n hx hb dX4_cueItem_43 rfl (lv_at hl 2 rfl) ?_
      refine va_get (D := E.1) (ci := 4) (v := .int (g4_fault m013)) (C := RX4) (T := TX4) (N := 18) hx hb hts inX4 hown hE.2.1 hP 0 rfl rfl 13 (by decide) (hE.w tw_611) (fun _ h9 => h9) rfl dX4_cueItem_44 ?_
      refine lv_if_ge (tgt := 63) hx hb dX4_cueItem_47 (by decide) (fun c19 => ?_) (fun c19 => ?_)
      · have hf := ip c19 hf
        obtain rfl := so1 hf
        exact rt_v hx hb hr hlocks hP hD hS dX4_cueItem_63
      · have hf := im c19 hf
        refine lv_aload_n hx hb dX4_cueItem_50 rfl (lv_at hl 2 rfl) ?_
        refine va_get (D := E.1) (ci := 4) (v := .ref (a 1)) (C := RX4) (T := TX4) (N := 18) hx hb hts inX4 hown hE.2.1 hP 0 rfl rfl 0 (by decide) (hE.w tw_598) (fun _ h9 => h9) rfl dX4_cueItem_51 ?_
        refine lv_iconst (v := (3 : Int32)) hx hb dX4_cueItem_54 (by decide) ?_
        refine lv_iload_n hx hb dX4_cueItem_55 rfl (lv_at hl 1 rfl) ?_
        refine lv_iadd hx hb dX4_cueItem_56 ?_
        refine lv_iload_n hx hb dX4_cueItem_57 rfl (lv_at hl 0 rfl) ?_
        obtain ⟨hg20, hf⟩ := gd_some hf
        obtain ⟨m_21, em_21, hf⟩ := jn1_some hf
        refine va_iast hx hb hE.2.1 hP hD hS 1 0 rfl rfl hg20 dX4_cueItem_58 (fun H locs hP hD hS => ?_)
        have hP : va_P E.1 vwCl (wX4 E a m_21) H := wst (by rw [em_21]; exact rfl) hP
        have hD : va_D A (wX4 E a m_21) := wsd (by rw [em_21]; exact rfl) hD
        refine lv_aload_n hx hb dX4_cueItem_59 rfl (lv_at hl 2 rfl) ?_
        obtain ⟨m23, hc22, hf⟩ := bd1_some hf
        refine cV (X := List.take 0 (wX4 E a m_21)) (Y := List.drop 12 (wX4 E a m_21)) (w := (wX4 E a m_21)) (w' := (wX4 E a m23)) (q0 := 0) lk_X4_224 hx hb hml hown hE hA (c_X4_next l E a m_21 m23 hc22) rfl rfl hP hD hS rfl rfl ⟨rfl, rfl, Nat.le_of_ble_eq_true rfl, Nat.le_of_ble_eq_true rfl⟩ hl.1 (As := []) (rest := []) rfl rfl (Nat.le_of_ble_eq_true rfl) ⟨Nat.zero_le _, Nat.zero_le _⟩ dX4_cueItem_60 (fun H locs hP hD hS => ?_)
        refine W.eq (g2 := F0 m 63 ls []) rfl ?_
        obtain rfl := so1 hf
        exact rt_v hx hb hr hlocks hP hD hS dX4_cueItem_63
    refine lv_if_ge (tgt := 43) hx hb dX4_cueItem_32 (by decide) (fun c12 => ?_) (fun c12 => ?_)
    · have hq15 := ip c12 hq15
      obtain rfl := so1 hq15
      exact J14 _ _ _ hP hD hS (lv_sub hl [0, 1, 2] rfl)
    · have hq15 := im c12 hq15
      refine lv_iload_n hx hb dX4_cueItem_35 rfl (lv_at hl 0 rfl) ?_
      refine lv_if_ge (tgt := 43) hx hb dX4_cueItem_36 (by decide) (fun c16 => ?_) (fun c16 => ?_)
      · have hq15 := ip c16 hq15
        obtain rfl := so1 hq15
        exact J14 _ _ _ hP hD hS (lv_sub hl [0, 1, 2] rfl)
      · have hq15 := im c16 hq15
        refine lv_aload_n hx hb dX4_cueItem_39 rfl (lv_at hl 2 rfl) ?_
        obtain ⟨m18, hc17, hq15⟩ := bd1_some hq15
        refine cV (X := List.take 0 (wX4 E a m5)) (Y := List.drop 12 (wX4 E a m5)) (w := (wX4 E a m5)) (w' := (wX4 E a m18)) (q0 := 0) lk_X4_221 hx hb hml hown hE hA (c_X4_wrongHere l E a m5 m18 hc17) rfl rfl hP hD hS rfl rfl ⟨rfl, rfl, Nat.le_of_ble_eq_true rfl, Nat.le_of_ble_eq_true rfl⟩ hl.1 (As := []) (rest := []) rfl rfl (Nat.le_of_ble_eq_true rfl) ⟨Nat.zero_le _, Nat.zero_le _⟩ dX4_cueItem_40 (fun H locs hP hD hS => ?_)
        refine W.eq (g2 := F0 m 43 ls []) rfl ?_
        obtain rfl := so1 hq15
        exact J14 _ _ _ hP hD hS (lv_sub hl [0, 1, 2] rfl)
  refine lv_if_ge (tgt := 26) hx hb dX4_cueItem_16 (by decide) (fun c6 => ?_) (fun c6 => ?_)
  · have hq9 := ip c6 hq9
    refine lv_iconst (v := (0 : Int32)) hx hb dX4_cueItem_26 (by decide) ?_
    obtain rfl := so1 hq9
    exact J8 _ _ _ hP hD hS (lv_sub hl [0, 1] rfl)
  · have hq9 := im c6 hq9
    refine lv_aload_n hx hb dX4_cueItem_19 rfl (lv_at hl 1 rfl) ?_
    obtain ⟨r11, hc10, hq9⟩ := bd1_some hq9
    refine cV (X := List.take 0 (wX4 E a m5)) (Y := List.drop 12 (wX4 E a m5)) (w := (wX4 E a m5)) (w' := (wX4 E a m5)) (q0 := 0) lk_X4_232 hx hb hml hown hE hA (c_X4_cueHere l E a m5 r11 hc10) rfl rfl hP hD hS rfl rfl ⟨rfl, rfl, Nat.le_of_ble_eq_true rfl, Nat.le_of_ble_eq_true rfl⟩ hl.1 (As := []) (rest := []) rfl rfl (Nat.le_of_ble_eq_true rfl) ⟨Nat.zero_le _, Nat.zero_le _⟩ dX4_cueItem_20 (fun H locs hP hD hS => ?_)
    refine W.eq (g2 := F0 m 23 ls [.int r11]) rfl ?_
    refine lv_goto (tgt := 27) hx hb dX4_cueItem_23 (by decide) ?_
    obtain rfl := so1 hq9
    exact J8 _ _ _ hP hD hS (lv_sub hl [0, 1] rfl)
def f_X4_tenseItem (m0 : MS) : Option (MS) := bd1 (f_X4_next m0) (fun m2 => bd2 (f_X4_numberHere m2 (0 : Int32) (15 : Int32)) (fun r4 m5 => bd2 (if 0 ≤ (g4_fault m5) then some ((0 : Int32), m5) else bd2 (f_X4_numberHere m5 (0 : Int32) (20 : Int32)) (fun r12 m13 => some (r12, m13))) (fun x7 m08 => if 0 ≤ (g4_fault m08) then some (m08) else gd ((19 : Int32) + r4) 67 (jn1 (s4_d m08 (upd (g4_d m08) ((19 : Int32) + r4).toNatClampNeg x7)) (fun m_16 => some (m_16))))))
set_option maxHeartbeats 4000000 in
set_option maxRecDepth 100000 in
theorem c_X4_tenseItem (l : Launch) (E : EV) (a : Nat → Nat) (m0 : MS)  (m0' : MS) (hf : f_X4_tenseItem m0 = some m0') : Ct l E yX4_tenseItem cX4_tenseItem 3 (none) (rmk 3 65) [.ref (a 0)] (wX4 E a m0) (wX4 E a m0') none := by
  refine Ct.of (by decide) (Nat.le_of_ble_eq_true rfl) ?_
  intro p e s m below meth c A ls hC hP hD hl
  obtain ⟨hx, hb, hr, hml, hown, hlocks, hE, hA⟩ := hC
  have hts : ∀ w ∈ tbl, w.before [.ref (a 0)].toArray s = true := fun w hw => hE.w hw
  have hS : va_S A s.heap s.heap [] := va_S.rf
  have hl : lv_has ls 3 [(0, .ref (a 0))] := hl
  unfold f_X4_tenseItem at hf
  refine lv_aload_n hx hb dX4_tenseItem_0 rfl (lv_at hl 0 rfl) ?_
  obtain ⟨m2, hc1, hf⟩ := bd1_some hf
  refine cV (X := List.take 0 (wX4 E a m0)) (Y := List.drop 12 (wX4 E a m0)) (w := (wX4 E a m0)) (w' := (wX4 E a m2)) (q0 := 0) lk_X4_224 hx hb hml hown hE hA (c_X4_next l E a m0 m2 hc1) rfl rfl hP hD hS rfl rfl ⟨rfl, rfl, Nat.le_of_ble_eq_true rfl, Nat.le_of_ble_eq_true rfl⟩ hl.1 (As := []) (rest := []) rfl rfl (Nat.le_of_ble_eq_true rfl) ⟨Nat.zero_le _, Nat.zero_le _⟩ dX4_tenseItem_1 (fun H locs hP hD hS => ?_)
  refine W.eq (g2 := F0 m 4 ls []) rfl ?_
  refine lv_aload_n hx hb dX4_tenseItem_4 rfl (lv_at hl 0 rfl) ?_
  refine lv_iconst (v := (0 : Int32)) hx hb dX4_tenseItem_5 (by decide) ?_
  refine lv_bipush (v := (15 : Int32)) hx hb dX4_tenseItem_6 (by decide) ?_
  obtain ⟨r4, m5, hc3, hf⟩ := bd2_some hf
  refine cV (X := List.take 0 (wX4 E a m2)) (Y := List.drop 12 (wX4 E a m2)) (w := (wX4 E a m2)) (w' := (wX4 E a m5)) (q0 := 0) lk_X4_229 hx hb hml hown hE hA (c_X4_numberHere l E a m2 (0 : Int32) (15 : Int32) r4 m5 hc3) rfl rfl hP hD hS rfl rfl ⟨rfl, rfl, Nat.le_of_ble_eq_true rfl, Nat.le_of_ble_eq_true rfl⟩ hl.1 (As := [.int (0 : Int32), .int (15 : Int32)]) (rest := []) rfl rfl (Nat.le_of_ble_eq_true rfl) ⟨Nat.zero_le _, Nat.zero_le _⟩ dX4_tenseItem_8 (fun H locs hP hD hS => ?_)
  refine W.eq (g2 := F0 m 11 ls [.int r4]) rfl ?_
  refine lv_istore_n (lv' := [(1, .int r4), (0, .ref (a 0))]) hx hb dX4_tenseItem_11 rfl hl (by decide) rfl (fun ls hl => ?_)
  refine lv_aload_n hx hb dX4_tenseItem_12 rfl (lv_at hl 1 rfl) ?_
  refine va_get (D := E.1) (ci := 4) (v := .int (g4_fault m5)) (C := RX4) (T := TX4) (N := 18) hx hb hts inX4 hown hE.2.1 hP 0 rfl rfl 13 (by decide) (hE.w tw_611) (fun _ h9 => h9) rfl dX4_tenseItem_13 ?_
  obtain ⟨x7, m08, hq10, hf⟩ := bd2_some hf
  have J9 : ∀ (H : Heap) (locs : List Loc) (ls : Array Slot), va_P E.1 vwCl (wX4 E a m08) H → va_D A (wX4 E a m08) → va_S A s.heap H locs → lv_has ls 3 [(1, .int r4), (0, .ref (a 0))] → W p l e (rmk 3 65) s m [.ref (a 0)].toArray below meth c H locs 0 0 (MQ below (Qct E A (wX4 E a m0') none) [.ref (a 0)].toArray s 0 0 A) (F0 m 30 ls [.int x7]) := by
    intro H locs ls hP hD hS hl
    refine lv_istore_n (lv' := [(2, .int x7), (1, .int r4), (0, .ref (a 0))]) hx hb dX4_tenseItem_30 rfl hl (by decide) rfl (fun ls hl => ?_)
    refine lv_aload_n hx hb dX4_tenseItem_31 rfl (lv_at hl 2 rfl) ?_
    refine va_get (D := E.1) (ci := 4) (v := .int (g4_fault m08)) (C := RX4) (T := TX4) (N := 18) hx hb hts inX4 hown hE.2.1 hP 0 rfl rfl 13 (by decide) (hE.w tw_611) (fun _ h9 => h9) rfl dX4_tenseItem_32 ?_
    refine lv_if_ge (tgt := 48) hx hb dX4_tenseItem_35 (by decide) (fun c14 => ?_) (fun c14 => ?_)
    · have hf := ip c14 hf
      obtain rfl := so1 hf
      exact rt_v hx hb hr hlocks hP hD hS dX4_tenseItem_48
    · have hf := im c14 hf
      refine lv_aload_n hx hb dX4_tenseItem_38 rfl (lv_at hl 2 rfl) ?_
      refine va_get (D := E.1) (ci := 4) (v := .ref (a 1)) (C := RX4) (T := TX4) (N := 18) hx hb hts inX4 hown hE.2.1 hP 0 rfl rfl 0 (by decide) (hE.w tw_598) (fun _ h9 => h9) rfl dX4_tenseItem_39 ?_
      refine lv_bipush (v := (19 : Int32)) hx hb dX4_tenseItem_42 (by decide) ?_
      refine lv_iload_n hx hb dX4_tenseItem_44 rfl (lv_at hl 1 rfl) ?_
      refine lv_iadd hx hb dX4_tenseItem_45 ?_
      refine lv_iload_n hx hb dX4_tenseItem_46 rfl (lv_at hl 0 rfl) ?_
      obtain ⟨hg15, hf⟩ := gd_some hf
      obtain ⟨m_16, em_16, hf⟩ := jn1_some hf
      refine va_iast hx hb hE.2.1 hP hD hS 1 0 rfl rfl hg15 dX4_tenseItem_47 (fun H locs hP hD hS => ?_)
      have hP : va_P E.1 vwCl (wX4 E a m_16) H := wst (by rw [em_16]; exact rfl) hP
      have hD : va_D A (wX4 E a m_16) := wsd (by rw [em_16]; exact rfl) hD
      obtain rfl := so1 hf
      exact rt_v hx hb hr hlocks hP hD hS dX4_tenseItem_48
  refine lv_if_ge (tgt := 29) hx hb dX4_tenseItem_16 (by decide) (fun c6 => ?_) (fun c6 => ?_)
  · have hq10 := ip c6 hq10
    refine lv_iconst (v := (0 : Int32)) hx hb dX4_tenseItem_29 (by decide) ?_
    obtain ⟨rfl, rfl⟩ := so2 hq10
    exact J9 _ _ _ hP hD hS (lv_sub hl [0, 1] rfl)
  · have hq10 := im c6 hq10
    refine lv_aload_n hx hb dX4_tenseItem_19 rfl (lv_at hl 1 rfl) ?_
    refine lv_iconst (v := (0 : Int32)) hx hb dX4_tenseItem_20 (by decide) ?_
    refine lv_bipush (v := (20 : Int32)) hx hb dX4_tenseItem_21 (by decide) ?_
    obtain ⟨r12, m13, hc11, hq10⟩ := bd2_some hq10
    refine cV (X := List.take 0 (wX4 E a m5)) (Y := List.drop 12 (wX4 E a m5)) (w := (wX4 E a m5)) (w' := (wX4 E a m13)) (q0 := 0) lk_X4_229 hx hb hml hown hE hA (c_X4_numberHere l E a m5 (0 : Int32) (20 : Int32) r12 m13 hc11) rfl rfl hP hD hS rfl rfl ⟨rfl, rfl, Nat.le_of_ble_eq_true rfl, Nat.le_of_ble_eq_true rfl⟩ hl.1 (As := [.int (0 : Int32), .int (20 : Int32)]) (rest := []) rfl rfl (Nat.le_of_ble_eq_true rfl) ⟨Nat.zero_le _, Nat.zero_le _⟩ dX4_tenseItem_23 (fun H locs hP hD hS => ?_)
    refine W.eq (g2 := F0 m 26 ls [.int r12]) rfl ?_
    refine lv_goto (tgt := 30) hx hb dX4_tenseItem_26 (by decide) ?_
    obtain ⟨rfl, rfl⟩ := so2 hq10
    exact J9 _ _ _ hP hD hS (lv_sub hl [0, 1] rfl)
def f_X4_swapItem (m0 : MS) : Option (MS) := bd1 (f_X4_next m0) (fun m2 => gd (0 : Int32) 67 (bd2 (f_X4_numberHere m2 (0 : Int32) (((g4_d m2) (0 : Int32).toNatClampNeg) - (1 : Int32))) (fun r5 m6 => bd1 (if 0 ≤ (g4_fault m6) then some (m6) else if (g4_sort m6) = (2 : Int32) then if (g4_value m6) = (r5.toInt64) then bd1 (f_X4_wrongHere m6) (fun m14 => some (m14)) else some (m6) else some (m6)) (fun m08 => bd2 (if 0 ≤ (g4_fault m08) then some ((0 : Int32), m08) else gd (0 : Int32) 67 (bd2 (f_X4_numberHere m08 (0 : Int32) (((g4_d m08) (0 : Int32).toNatClampNeg) - (1 : Int32))) (fun r22 m23 => some (r22, m23)))) (fun x16 m017 => if 0 ≤ (g4_fault m017) then some (m017) else bd1 (f_X4_swaps m017 r5 x16) (fun m26 => some (m26)))))))
set_option maxHeartbeats 4000000 in
set_option maxRecDepth 100000 in
theorem c_X4_swapItem (l : Launch) (E : EV) (a : Nat → Nat) (m0 : MS)  (m0' : MS) (hf : f_X4_swapItem m0 = some m0') : Ct l E yX4_swapItem cX4_swapItem 3 (none) (rmk 3 65) [.ref (a 0)] (wX4 E a m0) (wX4 E a m0') none := by
  refine Ct.of (by decide) (Nat.le_of_ble_eq_true rfl) ?_
  intro p e s m below meth c A ls hC hP hD hl
  obtain ⟨hx, hb, hr, hml, hown, hlocks, hE, hA⟩ := hC
  have hts : ∀ w ∈ tbl, w.before [.ref (a 0)].toArray s = true := fun w hw => hE.w hw
  have hS : va_S A s.heap s.heap [] := va_S.rf
  have hl : lv_has ls 3 [(0, .ref (a 0))] := hl
  unfold f_X4_swapItem at hf
  refine lv_aload_n hx hb dX4_swapItem_0 rfl (lv_at hl 0 rfl) ?_
  obtain ⟨m2, hc1, hf⟩ := bd1_some hf
  refine cV (X := List.take 0 (wX4 E a m0)) (Y := List.drop 12 (wX4 E a m0)) (w := (wX4 E a m0)) (w' := (wX4 E a m2)) (q0 := 0) lk_X4_224 hx hb hml hown hE hA (c_X4_next l E a m0 m2 hc1) rfl rfl hP hD hS rfl rfl ⟨rfl, rfl, Nat.le_of_ble_eq_true rfl, Nat.le_of_ble_eq_true rfl⟩ hl.1 (As := []) (rest := []) rfl rfl (Nat.le_of_ble_eq_true rfl) ⟨Nat.zero_le _, Nat.zero_le _⟩ dX4_swapItem_1 (fun H locs hP hD hS => ?_)
  refine W.eq (g2 := F0 m 4 ls []) rfl ?_
  refine lv_aload_n hx hb dX4_swapItem_4 rfl (lv_at hl 0 rfl) ?_
  refine lv_iconst (v := (0 : Int32)) hx hb dX4_swapItem_5 (by decide) ?_
  refine lv_aload_n hx hb dX4_swapItem_6 rfl (lv_at hl 0 rfl) ?_
  refine va_get (D := E.1) (ci := 4) (v := .ref (a 1)) (C := RX4) (T := TX4) (N := 18) hx hb hts inX4 hown hE.2.1 hP 0 rfl rfl 0 (by decide) (hE.w tw_598) (fun _ h9 => h9) rfl dX4_swapItem_7 ?_
  refine lv_iconst (v := (0 : Int32)) hx hb dX4_swapItem_10 (by decide) ?_
  obtain ⟨hg3, hf⟩ := gd_some hf
  refine va_iald hx hb hE.2.1 hP 1 0 rfl rfl hg3 dX4_swapItem_11 ?_
  refine lv_iconst (v := (1 : Int32)) hx hb dX4_swapItem_12 (by decide) ?_
  refine lv_isub hx hb dX4_swapItem_13 ?_
  obtain ⟨r5, m6, hc4, hf⟩ := bd2_some hf
  refine cV (X := List.take 0 (wX4 E a m2)) (Y := List.drop 12 (wX4 E a m2)) (w := (wX4 E a m2)) (w' := (wX4 E a m6)) (q0 := 0) lk_X4_229 hx hb hml hown hE hA (c_X4_numberHere l E a m2 (0 : Int32) (((g4_d m2) (0 : Int32).toNatClampNeg) - (1 : Int32)) r5 m6 hc4) rfl rfl hP hD hS rfl rfl ⟨rfl, rfl, Nat.le_of_ble_eq_true rfl, Nat.le_of_ble_eq_true rfl⟩ hl.1 (As := [.int (0 : Int32), .int (((g4_d m2) (0 : Int32).toNatClampNeg) - (1 : Int32))]) (rest := []) rfl rfl (Nat.le_of_ble_eq_true rfl) ⟨Nat.zero_le _, Nat.zero_le _⟩ dX4_swapItem_14 (fun H locs hP hD hS => ?_)
  refine W.eq (g2 := F0 m 17 ls [.int r5]) rfl ?_
  refine lv_istore_n (lv' := [(1, .int r5), (0, .ref (a 0))]) hx hb dX4_swapItem_17 rfl hl (by decide) rfl (fun ls hl => ?_)
  refine lv_aload_n hx hb dX4_swapItem_18 rfl (lv_at hl 1 rfl) ?_
  refine va_get (D := E.1) (ci := 4) (v := .int (g4_fault m6)) (C := RX4) (T := TX4) (N := 18) hx hb hts inX4 hown hE.2.1 hP 0 rfl rfl 13 (by decide) (hE.w tw_611) (fun _ h9 => h9) rfl dX4_swapItem_19 ?_
  obtain ⟨m08, hq10, hf⟩ := bd1_some hf
  have J9 : ∀ (H : Heap) (locs : List Loc) (ls : Array Slot), va_P E.1 vwCl (wX4 E a m08) H → va_D A (wX4 E a m08) → va_S A s.heap H locs → lv_has ls 3 [(1, .int r5), (0, .ref (a 0))] → W p l e (rmk 3 65) s m [.ref (a 0)].toArray below meth c H locs 0 0 (MQ below (Qct E A (wX4 E a m0') none) [.ref (a 0)].toArray s 0 0 A) (F0 m 47 ls []) := by
    intro H locs ls hP hD hS hl
    refine lv_aload_n hx hb dX4_swapItem_47 rfl (lv_at hl 1 rfl) ?_
    refine va_get (D := E.1) (ci := 4) (v := .int (g4_fault m08)) (C := RX4) (T := TX4) (N := 18) hx hb hts inX4 hown hE.2.1 hP 0 rfl rfl 13 (by decide) (hE.w tw_611) (fun _ h9 => h9) rfl dX4_swapItem_48 ?_
    obtain ⟨x16, m017, hq19, hf⟩ := bd2_some hf
    have J18 : ∀ (H : Heap) (locs : List Loc) (ls : Array Slot), va_P E.1 vwCl (wX4 E a m017) H → va_D A (wX4 E a m017) → va_S A s.heap H locs → lv_has ls 3 [(1, .int r5), (0, .ref (a 0))] → W p l e (rmk 3 65) s m [.ref (a 0)].toArray below meth c H locs 0 0 (MQ below (Qct E A (wX4 E a m0') none) [.ref (a 0)].toArray s 0 0 A) (F0 m 71 ls [.int x16]) := by
      intro H locs ls hP hD hS hl
      refine lv_istore_n (lv' := [(2, .int x16), (1, .int r5), (0, .ref (a 0))]) hx hb dX4_swapItem_71 rfl hl (by decide) rfl (fun ls hl => ?_)
      refine lv_aload_n hx hb dX4_swapItem_72 rfl (lv_at hl 2 rfl) ?_
      refine va_get (D := E.1) (ci := 4) (v := .int (g4_fault m017)) (C := RX4) (T := TX4) (N := 18) hx hb hts inX4 hown hE.2.1 hP 0 rfl rfl 13 (by decide) (hE.w tw_611) (fun _ h9 => h9) rfl dX4_swapItem_73 ?_
      refine lv_if_ge (tgt := 85) hx hb dX4_swapItem_76 (by decide) (fun c24 => ?_) (fun c24 => ?_)
      · have hf := ip c24 hf
        obtain rfl := so1 hf
        exact rt_v hx hb hr hlocks hP hD hS dX4_swapItem_85
      · have hf := im c24 hf
        refine lv_aload_n hx hb dX4_swapItem_79 rfl (lv_at hl 2 rfl) ?_
        refine lv_iload_n hx hb dX4_swapItem_80 rfl (lv_at hl 1 rfl) ?_
        refine lv_iload_n hx hb dX4_swapItem_81 rfl (lv_at hl 0 rfl) ?_
        obtain ⟨m26, hc25, hf⟩ := bd1_some hf
        refine cV (X := List.take 0 (wX4 E a m017)) (Y := List.drop 12 (wX4 E a m017)) (w := (wX4 E a m017)) (w' := (wX4 E a m26)) (q0 := 0) lk_X4_119 hx hb hml hown hE hA (c_X4_swaps l E a m017 r5 x16 m26 hc25) rfl rfl hP hD hS rfl rfl ⟨rfl, rfl, Nat.le_of_ble_eq_true rfl, Nat.le_of_ble_eq_true rfl⟩ hl.1 (As := [.int r5, .int x16]) (rest := []) rfl rfl (Nat.le_of_ble_eq_true rfl) ⟨Nat.zero_le _, Nat.zero_le _⟩ dX4_swapItem_82 (fun H locs hP hD hS => ?_)
        refine W.eq (g2 := F0 m 85 ls []) rfl ?_
        obtain rfl := so1 hf
        exact rt_v hx hb hr hlocks hP hD hS dX4_swapItem_85
    refine lv_if_ge (tgt := 70) hx hb dX4_swapItem_51 (by decide) (fun c15 => ?_) (fun c15 => ?_)
    · have hq19 := ip c15 hq19
      refine lv_iconst (v := (0 : Int32)) hx hb dX4_swapItem_70 (by decide) ?_
      obtain ⟨rfl, rfl⟩ := so2 hq19
      exact J18 _ _ _ hP hD hS (lv_sub hl [0, 1] rfl)
    · have hq19 := im c15 hq19
      refine lv_aload_n hx hb dX4_swapItem_54 rfl (lv_at hl 1 rfl) ?_
      refine lv_iconst (v := (0 : Int32)) hx hb dX4_swapItem_55 (by decide) ?_
      refine lv_aload_n hx hb dX4_swapItem_56 rfl (lv_at hl 1 rfl) ?_
      refine va_get (D := E.1) (ci := 4) (v := .ref (a 1)) (C := RX4) (T := TX4) (N := 18) hx hb hts inX4 hown hE.2.1 hP 0 rfl rfl 0 (by decide) (hE.w tw_598) (fun _ h9 => h9) rfl dX4_swapItem_57 ?_
      refine lv_iconst (v := (0 : Int32)) hx hb dX4_swapItem_60 (by decide) ?_
      obtain ⟨hg20, hq19⟩ := gd_some hq19
      refine va_iald hx hb hE.2.1 hP 1 0 rfl rfl hg20 dX4_swapItem_61 ?_
      refine lv_iconst (v := (1 : Int32)) hx hb dX4_swapItem_62 (by decide) ?_
      refine lv_isub hx hb dX4_swapItem_63 ?_
      obtain ⟨r22, m23, hc21, hq19⟩ := bd2_some hq19
      refine cV (X := List.take 0 (wX4 E a m08)) (Y := List.drop 12 (wX4 E a m08)) (w := (wX4 E a m08)) (w' := (wX4 E a m23)) (q0 := 0) lk_X4_229 hx hb hml hown hE hA (c_X4_numberHere l E a m08 (0 : Int32) (((g4_d m08) (0 : Int32).toNatClampNeg) - (1 : Int32)) r22 m23 hc21) rfl rfl hP hD hS rfl rfl ⟨rfl, rfl, Nat.le_of_ble_eq_true rfl, Nat.le_of_ble_eq_true rfl⟩ hl.1 (As := [.int (0 : Int32), .int (((g4_d m08) (0 : Int32).toNatClampNeg) - (1 : Int32))]) (rest := []) rfl rfl (Nat.le_of_ble_eq_true rfl) ⟨Nat.zero_le _, Nat.zero_le _⟩ dX4_swapItem_64 (fun H locs hP hD hS => ?_)
      refine W.eq (g2 := F0 m 67 ls [.int r22]) rfl ?_
      refine lv_goto (tgt := 71) hx hb dX4_swapItem_67 (by decide) ?_
      obtain ⟨rfl, rfl⟩ := so2 hq19
      exact J18 _ _ _ hP hD hS (lv_sub hl [0, 1] rfl)
  refine lv_if_ge (tgt := 47) hx hb dX4_swapItem_22 (by decide) (fun c7 => ?_) (fun c7 => ?_)
  · have hq10 := ip c7 hq10
    obtain rfl := so1 hq10
    exact J9 _ _ _ hP hD hS (lv_sub hl [0, 1] rfl)
  · have hq10 := im c7 hq10
    refine lv_aload_n hx hb dX4_swapItem_25 rfl (lv_at hl 1 rfl) ?_
    refine va_get (D := E.1) (ci := 4) (v := .int (g4_sort m6)) (C := RX4) (T := TX4) (N := 18) hx hb hts inX4 hown hE.2.1 hP 0 rfl rfl 10 (by decide) (hE.w tw_608) (fun _ h9 => h9) rfl dX4_swapItem_26 ?_
    refine lv_iconst (v := (2 : Int32)) hx hb dX4_swapItem_29 (by decide) ?_
    refine lv_icmp_ne (tgt := 47) hx hb dX4_swapItem_30 (by decide) (fun c11 => ?_) (fun c11 => ?_)
    · have hq10 := im c11 hq10
      obtain rfl := so1 hq10
      exact J9 _ _ _ hP hD hS (lv_sub hl [0, 1] rfl)
    · have hq10 := ip c11 hq10
      refine lv_aload_n hx hb dX4_swapItem_33 rfl (lv_at hl 1 rfl) ?_
      refine va_get (D := E.1) (ci := 4) (v := .long (g4_value m6)) (C := RX4) (T := TX4) (N := 18) hx hb hts inX4 hown hE.2.1 hP 0 rfl rfl 12 (by decide) (hE.w tw_610) (fun _ h9 => h9) rfl dX4_swapItem_34 ?_
      refine lv_iload_n hx hb dX4_swapItem_37 rfl (lv_at hl 0 rfl) ?_
      refine lv_i2l (v := (r5.toInt64)) hx hb dX4_swapItem_38 rfl ?_
      refine W.lcmp hx hb dX4_swapItem_39 ?_
      refine lv_if_ne (tgt := 47) hx hb dX4_swapItem_40 (by decide) (fun c12 => ?_) (fun c12 => ?_)
      · have c12 := fun h => c12 ((lg_cmp_eq _ _).mpr h)
        have hq10 := im c12 hq10
        obtain rfl := so1 hq10
        exact J9 _ _ _ hP hD hS (lv_sub hl [0, 1] rfl)
      · have c12 := (lg_cmp_eq _ _).mp c12
        have hq10 := ip c12 hq10
        refine lv_aload_n hx hb dX4_swapItem_43 rfl (lv_at hl 1 rfl) ?_
        obtain ⟨m14, hc13, hq10⟩ := bd1_some hq10
        refine cV (X := List.take 0 (wX4 E a m6)) (Y := List.drop 12 (wX4 E a m6)) (w := (wX4 E a m6)) (w' := (wX4 E a m14)) (q0 := 0) lk_X4_221 hx hb hml hown hE hA (c_X4_wrongHere l E a m6 m14 hc13) rfl rfl hP hD hS rfl rfl ⟨rfl, rfl, Nat.le_of_ble_eq_true rfl, Nat.le_of_ble_eq_true rfl⟩ hl.1 (As := []) (rest := []) rfl rfl (Nat.le_of_ble_eq_true rfl) ⟨Nat.zero_le _, Nat.zero_le _⟩ dX4_swapItem_44 (fun H locs hP hD hS => ?_)
        refine W.eq (g2 := F0 m 47 ls []) rfl ?_
        obtain rfl := so1 hq10
        exact J9 _ _ _ hP hD hS (lv_sub hl [0, 1] rfl)
def f_X4_item (m0 : MS) : Option (MS) := bd1 (f_X4_kindHere m0) (fun r2 => if r2 < 0 then bd1 (f_X4_isWord m0 (2759 : Int64)) (fun r5 => if (bI r5) = 0 then bd1 (f_X4_isWord m0 (10737959 : Int64)) (fun r8 => if (bI r8) = 0 then bd1 (f_X4_isWord m0 (390787 : Int64)) (fun r11 => if (bI r11) = 0 then bd1 (f_X4_wrongHere m0) (fun m14 => some (m14)) else bd1 (f_X4_swapItem m0) (fun m16 => some (m16))) else bd1 (f_X4_tenseItem m0) (fun m18 => some (m18))) else bd1 (f_X4_cueItem m0) (fun m20 => some (m20))) else bd1 (f_X4_personHere m0 r2) (fun m22 => some (m22)))
set_option maxHeartbeats 4000000 in
set_option maxRecDepth 100000 in
theorem c_X4_item (l : Launch) (E : EV) (a : Nat → Nat) (m0 : MS)  (m0' : MS) (hf : f_X4_item m0 = some m0') : Ct l E yX4_item cX4_item 2 (none) (rmk 4 87) [.ref (a 0)] (wX4 E a m0) (wX4 E a m0') none := by
  refine Ct.of (by decide) (Nat.le_of_ble_eq_true rfl) ?_
  intro p e s m below meth c A ls hC hP hD hl
  obtain ⟨hx, hb, hr, hml, hown, hlocks, hE, hA⟩ := hC
  have hts : ∀ w ∈ tbl, w.before [.ref (a 0)].toArray s = true := fun w hw => hE.w hw
  have hS : va_S A s.heap s.heap [] := va_S.rf
  have hl : lv_has ls 2 [(0, .ref (a 0))] := hl
  unfold f_X4_item at hf
  refine lv_aload_n hx hb dX4_item_0 rfl (lv_at hl 0 rfl) ?_
  obtain ⟨r2, hc1, hf⟩ := bd1_some hf
  refine cV (X := List.take 0 (wX4 E a m0)) (Y := List.drop 12 (wX4 E a m0)) (w := (wX4 E a m0)) (w' := (wX4 E a m0)) (q0 := 0) lk_X4_236 hx hb hml hown hE hA (c_X4_kindHere l E a m0 r2 hc1) rfl rfl hP hD hS rfl rfl ⟨rfl, rfl, Nat.le_of_ble_eq_true rfl, Nat.le_of_ble_eq_true rfl⟩ hl.1 (As := []) (rest := []) rfl rfl (Nat.le_of_ble_eq_true rfl) ⟨Nat.zero_le _, Nat.zero_le _⟩ dX4_item_1 (fun H locs hP hD hS => ?_)
  refine W.eq (g2 := F0 m 4 ls [.int r2]) rfl ?_
  refine lv_istore_n (lv' := [(1, .int r2), (0, .ref (a 0))]) hx hb dX4_item_4 rfl hl (by decide) rfl (fun ls hl => ?_)
  refine lv_iload_n hx hb dX4_item_5 rfl (lv_at hl 0 rfl) ?_
  refine lv_if_lt (tgt := 17) hx hb dX4_item_6 (by decide) (fun c3 => ?_) (fun c3 => ?_)
  · have hf := ip c3 hf
    refine lv_aload_n hx hb dX4_item_17 rfl (lv_at hl 1 rfl) ?_
    refine lv_ldc2 (v := (2759 : Int64)) hx hb hown (hE.w tw_918) dX4_item_18 ?_
    obtain ⟨r5, hc4, hf⟩ := bd1_some hf
    refine cV (X := List.take 0 (wX4 E a m0)) (Y := List.drop 12 (wX4 E a m0)) (w := (wX4 E a m0)) (w' := (wX4 E a m0)) (q0 := 0) lk_X4_197 hx hb hml hown hE hA (c_X4_isWord l E a m0 (2759 : Int64) r5 hc4) rfl rfl hP hD hS rfl rfl ⟨rfl, rfl, Nat.le_of_ble_eq_true rfl, Nat.le_of_ble_eq_true rfl⟩ hl.1 (As := [.long (2759 : Int64)]) (rest := []) rfl rfl (Nat.le_of_ble_eq_true rfl) ⟨Nat.zero_le _, Nat.zero_le _⟩ dX4_item_21 (fun H locs hP hD hS => ?_)
    refine W.eq (g2 := F0 m 24 ls [.int (bI r5)]) rfl ?_
    refine lv_if_eq (tgt := 34) hx hb dX4_item_24 (by decide) (fun c6 => ?_) (fun c6 => ?_)
    · have hf := ip c6 hf
      refine lv_aload_n hx hb dX4_item_34 rfl (lv_at hl 1 rfl) ?_
      refine lv_ldc2 (v := (10737959 : Int64)) hx hb hown (hE.w tw_932) dX4_item_35 ?_
      obtain ⟨r8, hc7, hf⟩ := bd1_some hf
      refine cV (X := List.take 0 (wX4 E a m0)) (Y := List.drop 12 (wX4 E a m0)) (w := (wX4 E a m0)) (w' := (wX4 E a m0)) (q0 := 0) lk_X4_197 hx hb hml hown hE hA (c_X4_isWord l E a m0 (10737959 : Int64) r8 hc7) rfl rfl hP hD hS rfl rfl ⟨rfl, rfl, Nat.le_of_ble_eq_true rfl, Nat.le_of_ble_eq_true rfl⟩ hl.1 (As := [.long (10737959 : Int64)]) (rest := []) rfl rfl (Nat.le_of_ble_eq_true rfl) ⟨Nat.zero_le _, Nat.zero_le _⟩ dX4_item_38 (fun H locs hP hD hS => ?_)
      refine W.eq (g2 := F0 m 41 ls [.int (bI r8)]) rfl ?_
      refine lv_if_eq (tgt := 51) hx hb dX4_item_41 (by decide) (fun c9 => ?_) (fun c9 => ?_)
      · have hf := ip c9 hf
        refine lv_aload_n hx hb dX4_item_51 rfl (lv_at hl 1 rfl) ?_
        refine lv_ldc2 (v := (390787 : Int64)) hx hb hown (hE.w tw_937) dX4_item_52 ?_
        obtain ⟨r11, hc10, hf⟩ := bd1_some hf
        refine cV (X := List.take 0 (wX4 E a m0)) (Y := List.drop 12 (wX4 E a m0)) (w := (wX4 E a m0)) (w' := (wX4 E a m0)) (q0 := 0) lk_X4_197 hx hb hml hown hE hA (c_X4_isWord l E a m0 (390787 : Int64) r11 hc10) rfl rfl hP hD hS rfl rfl ⟨rfl, rfl, Nat.le_of_ble_eq_true rfl, Nat.le_of_ble_eq_true rfl⟩ hl.1 (As := [.long (390787 : Int64)]) (rest := []) rfl rfl (Nat.le_of_ble_eq_true rfl) ⟨Nat.zero_le _, Nat.zero_le _⟩ dX4_item_55 (fun H locs hP hD hS => ?_)
        refine W.eq (g2 := F0 m 58 ls [.int (bI r11)]) rfl ?_
        refine lv_if_eq (tgt := 68) hx hb dX4_item_58 (by decide) (fun c12 => ?_) (fun c12 => ?_)
        · have hf := ip c12 hf
          refine lv_aload_n hx hb dX4_item_68 rfl (lv_at hl 1 rfl) ?_
          obtain ⟨m14, hc13, hf⟩ := bd1_some hf
          refine cV (X := List.take 0 (wX4 E a m0)) (Y := List.drop 12 (wX4 E a m0)) (w := (wX4 E a m0)) (w' := (wX4 E a m14)) (q0 := 0) lk_X4_221 hx hb hml hown hE hA (c_X4_wrongHere l E a m0 m14 hc13) rfl rfl hP hD hS rfl rfl ⟨rfl, rfl, Nat.le_of_ble_eq_true rfl, Nat.le_of_ble_eq_true rfl⟩ hl.1 (As := []) (rest := []) rfl rfl (Nat.le_of_ble_eq_true rfl) ⟨Nat.zero_le _, Nat.zero_le _⟩ dX4_item_69 (fun H locs hP hD hS => ?_)
          refine W.eq (g2 := F0 m 72 ls []) rfl ?_
          obtain rfl := so1 hf
          exact rt_v hx hb hr hlocks hP hD hS dX4_item_72
        · have hf := im c12 hf
          refine lv_aload_n hx hb dX4_item_61 rfl (lv_at hl 1 rfl) ?_
          obtain ⟨m16, hc15, hf⟩ := bd1_some hf
          refine cV (X := List.take 0 (wX4 E a m0)) (Y := List.drop 12 (wX4 E a m0)) (w := (wX4 E a m0)) (w' := (wX4 E a m16)) (q0 := 0) lk_X4_254 hx hb hml hown hE hA (c_X4_swapItem l E a m0 m16 hc15) rfl rfl hP hD hS rfl rfl ⟨rfl, rfl, Nat.le_of_ble_eq_true rfl, Nat.le_of_ble_eq_true rfl⟩ hl.1 (As := []) (rest := []) rfl rfl (Nat.le_of_ble_eq_true rfl) ⟨Nat.zero_le _, Nat.zero_le _⟩ dX4_item_62 (fun H locs hP hD hS => ?_)
          refine W.eq (g2 := F0 m 65 ls []) rfl ?_
          refine lv_goto (tgt := 72) hx hb dX4_item_65 (by decide) ?_
          obtain rfl := so1 hf
          exact rt_v hx hb hr hlocks hP hD hS dX4_item_72
      · have hf := im c9 hf
        refine lv_aload_n hx hb dX4_item_44 rfl (lv_at hl 1 rfl) ?_
        obtain ⟨m18, hc17, hf⟩ := bd1_some hf
        refine cV (X := List.take 0 (wX4 E a m0)) (Y := List.drop 12 (wX4 E a m0)) (w := (wX4 E a m0)) (w' := (wX4 E a m18)) (q0 := 0) lk_X4_249 hx hb hml hown hE hA (c_X4_tenseItem l E a m0 m18 hc17) rfl rfl hP hD hS rfl rfl ⟨rfl, rfl, Nat.le_of_ble_eq_true rfl, Nat.le_of_ble_eq_true rfl⟩ hl.1 (As := []) (rest := []) rfl rfl (Nat.le_of_ble_eq_true rfl) ⟨Nat.zero_le _, Nat.zero_le _⟩ dX4_item_45 (fun H locs hP hD hS => ?_)
        refine W.eq (g2 := F0 m 48 ls []) rfl ?_
        refine lv_goto (tgt := 72) hx hb dX4_item_48 (by decide) ?_
        obtain rfl := so1 hf
        exact rt_v hx hb hr hlocks hP hD hS dX4_item_72
    · have hf := im c6 hf
      refine lv_aload_n hx hb dX4_item_27 rfl (lv_at hl 1 rfl) ?_
      obtain ⟨m20, hc19, hf⟩ := bd1_some hf
      refine cV (X := List.take 0 (wX4 E a m0)) (Y := List.drop 12 (wX4 E a m0)) (w := (wX4 E a m0)) (w' := (wX4 E a m20)) (q0 := 0) lk_X4_244 hx hb hml hown hE hA (c_X4_cueItem l E a m0 m20 hc19) rfl rfl hP hD hS rfl rfl ⟨rfl, rfl, Nat.le_of_ble_eq_true rfl, Nat.le_of_ble_eq_true rfl⟩ hl.1 (As := []) (rest := []) rfl rfl (Nat.le_of_ble_eq_true rfl) ⟨Nat.zero_le _, Nat.zero_le _⟩ dX4_item_28 (fun H locs hP hD hS => ?_)
      refine W.eq (g2 := F0 m 31 ls []) rfl ?_
      refine lv_goto (tgt := 72) hx hb dX4_item_31 (by decide) ?_
      obtain rfl := so1 hf
      exact rt_v hx hb hr hlocks hP hD hS dX4_item_72
  · have hf := im c3 hf
    refine lv_aload_n hx hb dX4_item_9 rfl (lv_at hl 1 rfl) ?_
    refine lv_iload_n hx hb dX4_item_10 rfl (lv_at hl 0 rfl) ?_
    obtain ⟨m22, hc21, hf⟩ := bd1_some hf
    refine cV (X := List.take 0 (wX4 E a m0)) (Y := List.drop 12 (wX4 E a m0)) (w := (wX4 E a m0)) (w' := (wX4 E a m22)) (q0 := 0) lk_X4_239 hx hb hml hown hE hA (c_X4_personHere l E a m0 r2 m22 hc21) rfl rfl hP hD hS rfl rfl ⟨rfl, rfl, Nat.le_of_ble_eq_true rfl, Nat.le_of_ble_eq_true rfl⟩ hl.1 (As := [.int r2]) (rest := []) rfl rfl (Nat.le_of_ble_eq_true rfl) ⟨Nat.zero_le _, Nat.zero_le _⟩ dX4_item_11 (fun H locs hP hD hS => ?_)
    refine W.eq (g2 := F0 m 14 ls []) rfl ?_
    refine lv_goto (tgt := 72) hx hb dX4_item_14 (by decide) ?_
    obtain rfl := so1 hf
    exact rt_v hx hb hr hlocks hP hD hS dX4_item_72
def lp_X4_items_20  : Nat → (Int32) → (MS) → Option (Int32 × MS)
  | 0, _, _ => none
  | k_7 + 1, v1_7, m0_7 => if 0 ≤ (g4_fault m0_7) then bd1 (if 0 ≤ (g4_fault m0_7) then some (m0_7) else if (g4_sort m0_7) = 0 then some (m0_7) else bd1 (f_X4_wrongHere m0_7) (fun m15 => some (m15))) (fun m010 => some (v1_7, m010)) else if (g4_sort m0_7) = (3 : Int32) then bd1 (f_X4_next m0_7) (fun m25 => bd1 (f_X4_item m25) (fun m27 => lp_X4_items_20  k_7 (v1_7 + (1 : Int32)) m27)) else bd1 (if 0 ≤ (g4_fault m0_7) then some (m0_7) else if (g4_sort m0_7) = 0 then some (m0_7) else bd1 (f_X4_wrongHere m0_7) (fun m23 => some (m23))) (fun m018 => some (v1_7, m018))
def f_X4_items (m0 : MS) : Option (Int32 × MS) := jn1 (s4_at m0 (0 : Int32)) (fun m_1 => jn1 (s4_fault m_1 (-1 : Int32)) (fun m_2 => bd1 (f_X4_next m_2) (fun m4 => bd1 (f_X4_item m4) (fun m6 => lp_X4_items_20  FU (1 : Int32) m6))))
set_option maxHeartbeats 4000000 in
set_option maxRecDepth 100000 in
theorem c_X4_items (l : Launch) (E : EV) (a : Nat → Nat) (m0 : MS)  (r : Int32) (m0' : MS) (hf : f_X4_items m0 = some (r, m0')) : Ct l E yX4_items cX4_items 2 ((Option.some FieldType.int)) (rmk 5 108) [.ref (a 0)] (wX4 E a m0) (wX4 E a m0') (some (.int r)) := by
  refine Ct.of (by decide) (Nat.le_of_ble_eq_true rfl) ?_
  intro p e s m below meth c A ls hC hP hD hl
  obtain ⟨hx, hb, hr, hml, hown, hlocks, hE, hA⟩ := hC
  have hts : ∀ w ∈ tbl, w.before [.ref (a 0)].toArray s = true := fun w hw => hE.w hw
  have hS : va_S A s.heap s.heap [] := va_S.rf
  have hl : lv_has ls 2 [(0, .ref (a 0))] := hl
  unfold f_X4_items at hf
  refine lv_aload_n hx hb dX4_items_0 rfl (lv_at hl 0 rfl) ?_
  refine lv_iconst (v := (0 : Int32)) hx hb dX4_items_1 (by decide) ?_
  obtain ⟨m_1, em_1, hf⟩ := jn1_some hf
  refine va_put (D := E.1) (ci := 4) (v := .int (0 : Int32)) (ty := .int) (C := RX4) (T := TX4) (N := 18) hx hb hts inX4 tyX4 tyX4_ok nmX4 hown hE.2.1 hP hD hS 0 rfl rfl 9 (by decide) (hE.w tw_607) (fun _ h9 => h9) rfl (by decide +kernel) rfl rfl (Nat.le_of_ble_eq_true rfl) dX4_items_2 (fun H locs hP hD hS => ?_)
  have hP : va_P E.1 vwCl (wX4 E a m_1) H := wst (by rw [em_1]; exact rfl) hP
  have hD : va_D A (wX4 E a m_1) := wsd (by rw [em_1]; exact rfl) hD
  refine lv_aload_n hx hb dX4_items_5 rfl (lv_at hl 0 rfl) ?_
  refine lv_iconst (v := (-1 : Int32)) hx hb dX4_items_6 (by decide) ?_
  obtain ⟨m_2, em_2, hf⟩ := jn1_some hf
  refine va_put (D := E.1) (ci := 4) (v := .int (-1 : Int32)) (ty := .int) (C := RX4) (T := TX4) (N := 18) hx hb hts inX4 tyX4 tyX4_ok nmX4 hown hE.2.1 hP hD hS 0 rfl rfl 13 (by decide) (hE.w tw_611) (fun _ h9 => h9) rfl (by decide +kernel) rfl rfl (Nat.le_of_ble_eq_true rfl) dX4_items_7 (fun H locs hP hD hS => ?_)
  have hP : va_P E.1 vwCl (wX4 E a m_2) H := wst (by rw [em_2]; exact rfl) hP
  have hD : va_D A (wX4 E a m_2) := wsd (by rw [em_2]; exact rfl) hD
  refine lv_aload_n hx hb dX4_items_10 rfl (lv_at hl 0 rfl) ?_
  obtain ⟨m4, hc3, hf⟩ := bd1_some hf
  refine cV (X := List.take 0 (wX4 E a m_2)) (Y := List.drop 12 (wX4 E a m_2)) (w := (wX4 E a m_2)) (w' := (wX4 E a m4)) (q0 := 0) lk_X4_224 hx hb hml hown hE hA (c_X4_next l E a m_2 m4 hc3) rfl rfl hP hD hS rfl rfl ⟨rfl, rfl, Nat.le_of_ble_eq_true rfl, Nat.le_of_ble_eq_true rfl⟩ hl.1 (As := []) (rest := []) rfl rfl (Nat.le_of_ble_eq_true rfl) ⟨Nat.zero_le _, Nat.zero_le _⟩ dX4_items_11 (fun H locs hP hD hS => ?_)
  refine W.eq (g2 := F0 m 14 ls []) rfl ?_
  refine lv_aload_n hx hb dX4_items_14 rfl (lv_at hl 0 rfl) ?_
  obtain ⟨m6, hc5, hf⟩ := bd1_some hf
  refine cV (X := List.take 0 (wX4 E a m4)) (Y := List.drop 12 (wX4 E a m4)) (w := (wX4 E a m4)) (w' := (wX4 E a m6)) (q0 := 0) lk_X4_257 hx hb hml hown hE hA (c_X4_item l E a m4 m6 hc5) rfl rfl hP hD hS rfl rfl ⟨rfl, rfl, Nat.le_of_ble_eq_true rfl, Nat.le_of_ble_eq_true rfl⟩ hl.1 (As := []) (rest := []) rfl rfl (Nat.le_of_ble_eq_true rfl) ⟨Nat.zero_le _, Nat.zero_le _⟩ dX4_items_15 (fun H locs hP hD hS => ?_)
  refine W.eq (g2 := F0 m 18 ls []) rfl ?_
  refine lv_iconst (v := (1 : Int32)) hx hb dX4_items_18 (by decide) ?_
  refine lv_istore_n (lv' := [(1, .int (1 : Int32)), (0, .ref (a 0))]) hx hb dX4_items_19 rfl hl (by decide) rfl (fun ls hl => ?_)
  have L_7 : ∀ (k_7 : Nat) (v1_7 : Int32) (m0_7 : MS), lp_X4_items_20  k_7 v1_7 m0_7 = some (r, m0') → ∀ (H : Heap) (locs : List Loc) (ls : Array Slot), va_P E.1 vwCl (wX4 E a m0_7) H → va_D A (wX4 E a m0_7) → va_S A s.heap H locs → lv_has ls 2 [(1, .int v1_7), (0, .ref (a 0))] → W p l e (rmk 5 108) s m [.ref (a 0)].toArray below meth c H locs 0 0 (MQ below (Qct E A (wX4 E a m0') (some (.int r))) [.ref (a 0)].toArray s 0 0 A) (F0 m 20 ls []) := by
    intro k_7
    induction k_7 with
    | zero =>
      intro v1_7 m0_7 hf
      rw [lp_X4_items_20] at hf
      cases hf
    | succ k_7 ih_7 =>
      intro v1_7 m0_7 hf H locs ls hP hD hS hl
      rw [lp_X4_items_20] at hf
      refine lv_aload_n hx hb dX4_items_20 rfl (lv_at hl 1 rfl) ?_
      refine va_get (D := E.1) (ci := 4) (v := .int (g4_fault m0_7)) (C := RX4) (T := TX4) (N := 18) hx hb hts inX4 hown hE.2.1 hP 0 rfl rfl 13 (by decide) (hE.w tw_611) (fun _ h9 => h9) rfl dX4_items_21 ?_
      refine lv_if_ge (tgt := 49) hx hb dX4_items_24 (by decide) (fun c8 => ?_) (fun c8 => ?_)
      · have hf := ip c8 hf
        refine lv_aload_n hx hb dX4_items_49 rfl (lv_at hl 1 rfl) ?_
        refine va_get (D := E.1) (ci := 4) (v := .int (g4_fault m0_7)) (C := RX4) (T := TX4) (N := 18) hx hb hts inX4 hown hE.2.1 hP 0 rfl rfl 13 (by decide) (hE.w tw_611) (fun _ h9 => h9) rfl dX4_items_50 ?_
        obtain ⟨m010, hq12, hf⟩ := bd1_some hf
        have J11 : ∀ (H : Heap) (locs : List Loc) (ls : Array Slot), va_P E.1 vwCl (wX4 E a m010) H → va_D A (wX4 E a m010) → va_S A s.heap H locs → lv_has ls 2 [(1, .int v1_7), (0, .ref (a 0))] → W p l e (rmk 5 108) s m [.ref (a 0)].toArray below meth c H locs 0 0 (MQ below (Qct E A (wX4 E a m0') (some (.int r))) [.ref (a 0)].toArray s 0 0 A) (F0 m 67 ls []) := by
          intro H locs ls hP hD hS hl
          refine lv_iload_n hx hb dX4_items_67 rfl (lv_at hl 0 rfl) ?_
          obtain ⟨rfl, rfl⟩ := so2 hf
          exact rt_i hx hb hr hlocks hP hD hS dX4_items_68
        refine lv_if_ge (tgt := 67) hx hb dX4_items_53 (by decide) (fun c9 => ?_) (fun c9 => ?_)
        · have hq12 := ip c9 hq12
          obtain rfl := so1 hq12
          exact J11 _ _ _ hP hD hS (lv_sub hl [0, 1] rfl)
        · have hq12 := im c9 hq12
          refine lv_aload_n hx hb dX4_items_56 rfl (lv_at hl 1 rfl) ?_
          refine va_get (D := E.1) (ci := 4) (v := .int (g4_sort m0_7)) (C := RX4) (T := TX4) (N := 18) hx hb hts inX4 hown hE.2.1 hP 0 rfl rfl 10 (by decide) (hE.w tw_608) (fun _ h9 => h9) rfl dX4_items_57 ?_
          refine lv_if_eq (tgt := 67) hx hb dX4_items_60 (by decide) (fun c13 => ?_) (fun c13 => ?_)
          · have hq12 := ip c13 hq12
            obtain rfl := so1 hq12
            exact J11 _ _ _ hP hD hS (lv_sub hl [0, 1] rfl)
          · have hq12 := im c13 hq12
            refine lv_aload_n hx hb dX4_items_63 rfl (lv_at hl 1 rfl) ?_
            obtain ⟨m15, hc14, hq12⟩ := bd1_some hq12
            refine cV (X := List.take 0 (wX4 E a m0_7)) (Y := List.drop 12 (wX4 E a m0_7)) (w := (wX4 E a m0_7)) (w' := (wX4 E a m15)) (q0 := 0) lk_X4_221 hx hb hml hown hE hA (c_X4_wrongHere l E a m0_7 m15 hc14) rfl rfl hP hD hS rfl rfl ⟨rfl, rfl, Nat.le_of_ble_eq_true rfl, Nat.le_of_ble_eq_true rfl⟩ hl.1 (As := []) (rest := []) rfl rfl (Nat.le_of_ble_eq_true rfl) ⟨Nat.zero_le _, Nat.zero_le _⟩ dX4_items_64 (fun H locs hP hD hS => ?_)
            refine W.eq (g2 := F0 m 67 ls []) rfl ?_
            obtain rfl := so1 hq12
            exact J11 _ _ _ hP hD hS (lv_sub hl [0, 1] rfl)
      · have hf := im c8 hf
        refine lv_aload_n hx hb dX4_items_27 rfl (lv_at hl 1 rfl) ?_
        refine va_get (D := E.1) (ci := 4) (v := .int (g4_sort m0_7)) (C := RX4) (T := TX4) (N := 18) hx hb hts inX4 hown hE.2.1 hP 0 rfl rfl 10 (by decide) (hE.w tw_608) (fun _ h9 => h9) rfl dX4_items_28 ?_
        refine lv_iconst (v := (3 : Int32)) hx hb dX4_items_31 (by decide) ?_
        refine lv_icmp_ne (tgt := 49) hx hb dX4_items_32 (by decide) (fun c16 => ?_) (fun c16 => ?_)
        · have hf := im c16 hf
          refine lv_aload_n hx hb dX4_items_49 rfl (lv_at hl 1 rfl) ?_
          refine va_get (D := E.1) (ci := 4) (v := .int (g4_fault m0_7)) (C := RX4) (T := TX4) (N := 18) hx hb hts inX4 hown hE.2.1 hP 0 rfl rfl 13 (by decide) (hE.w tw_611) (fun _ h9 => h9) rfl dX4_items_50 ?_
          obtain ⟨m018, hq20, hf⟩ := bd1_some hf
          have J19 : ∀ (H : Heap) (locs : List Loc) (ls : Array Slot), va_P E.1 vwCl (wX4 E a m018) H → va_D A (wX4 E a m018) → va_S A s.heap H locs → lv_has ls 2 [(1, .int v1_7), (0, .ref (a 0))] → W p l e (rmk 5 108) s m [.ref (a 0)].toArray below meth c H locs 0 0 (MQ below (Qct E A (wX4 E a m0') (some (.int r))) [.ref (a 0)].toArray s 0 0 A) (F0 m 67 ls []) := by
            intro H locs ls hP hD hS hl
            refine lv_iload_n hx hb dX4_items_67 rfl (lv_at hl 0 rfl) ?_
            obtain ⟨rfl, rfl⟩ := so2 hf
            exact rt_i hx hb hr hlocks hP hD hS dX4_items_68
          refine lv_if_ge (tgt := 67) hx hb dX4_items_53 (by decide) (fun c17 => ?_) (fun c17 => ?_)
          · have hq20 := ip c17 hq20
            obtain rfl := so1 hq20
            exact J19 _ _ _ hP hD hS (lv_sub hl [0, 1] rfl)
          · have hq20 := im c17 hq20
            refine lv_aload_n hx hb dX4_items_56 rfl (lv_at hl 1 rfl) ?_
            refine va_get (D := E.1) (ci := 4) (v := .int (g4_sort m0_7)) (C := RX4) (T := TX4) (N := 18) hx hb hts inX4 hown hE.2.1 hP 0 rfl rfl 10 (by decide) (hE.w tw_608) (fun _ h9 => h9) rfl dX4_items_57 ?_
            refine lv_if_eq (tgt := 67) hx hb dX4_items_60 (by decide) (fun c21 => ?_) (fun c21 => ?_)
            · have hq20 := ip c21 hq20
              obtain rfl := so1 hq20
              exact J19 _ _ _ hP hD hS (lv_sub hl [0, 1] rfl)
            · have hq20 := im c21 hq20
              refine lv_aload_n hx hb dX4_items_63 rfl (lv_at hl 1 rfl) ?_
              obtain ⟨m23, hc22, hq20⟩ := bd1_some hq20
              refine cV (X := List.take 0 (wX4 E a m0_7)) (Y := List.drop 12 (wX4 E a m0_7)) (w := (wX4 E a m0_7)) (w' := (wX4 E a m23)) (q0 := 0) lk_X4_221 hx hb hml hown hE hA (c_X4_wrongHere l E a m0_7 m23 hc22) rfl rfl hP hD hS rfl rfl ⟨rfl, rfl, Nat.le_of_ble_eq_true rfl, Nat.le_of_ble_eq_true rfl⟩ hl.1 (As := []) (rest := []) rfl rfl (Nat.le_of_ble_eq_true rfl) ⟨Nat.zero_le _, Nat.zero_le _⟩ dX4_items_64 (fun H locs hP hD hS => ?_)
              refine W.eq (g2 := F0 m 67 ls []) rfl ?_
              obtain rfl := so1 hq20
              exact J19 _ _ _ hP hD hS (lv_sub hl [0, 1] rfl)
        · have hf := ip c16 hf
          refine lv_aload_n hx hb dX4_items_35 rfl (lv_at hl 1 rfl) ?_
          obtain ⟨m25, hc24, hf⟩ := bd1_some hf
          refine cV (X := List.take 0 (wX4 E a m0_7)) (Y := List.drop 12 (wX4 E a m0_7)) (w := (wX4 E a m0_7)) (w' := (wX4 E a m25)) (q0 := 0) lk_X4_224 hx hb hml hown hE hA (c_X4_next l E a m0_7 m25 hc24) rfl rfl hP hD hS rfl rfl ⟨rfl, rfl, Nat.le_of_ble_eq_true rfl, Nat.le_of_ble_eq_true rfl⟩ hl.1 (As := []) (rest := []) rfl rfl (Nat.le_of_ble_eq_true rfl) ⟨Nat.zero_le _, Nat.zero_le _⟩ dX4_items_36 (fun H locs hP hD hS => ?_)
          refine W.eq (g2 := F0 m 39 ls []) rfl ?_
          refine lv_aload_n hx hb dX4_items_39 rfl (lv_at hl 1 rfl) ?_
          obtain ⟨m27, hc26, hf⟩ := bd1_some hf
          refine cV (X := List.take 0 (wX4 E a m25)) (Y := List.drop 12 (wX4 E a m25)) (w := (wX4 E a m25)) (w' := (wX4 E a m27)) (q0 := 0) lk_X4_257 hx hb hml hown hE hA (c_X4_item l E a m25 m27 hc26) rfl rfl hP hD hS rfl rfl ⟨rfl, rfl, Nat.le_of_ble_eq_true rfl, Nat.le_of_ble_eq_true rfl⟩ hl.1 (As := []) (rest := []) rfl rfl (Nat.le_of_ble_eq_true rfl) ⟨Nat.zero_le _, Nat.zero_le _⟩ dX4_items_40 (fun H locs hP hD hS => ?_)
          refine W.eq (g2 := F0 m 43 ls []) rfl ?_
          refine lv_iinc (v := (v1_7 + (1 : Int32))) (lv' := [(1, .int (v1_7 + (1 : Int32))), (0, .ref (a 0))]) hx hb dX4_items_43 hl (k := 0) rfl rfl (by decide) rfl (fun ls hl => ?_)
          refine lv_goto (tgt := 20) hx hb dX4_items_46 (by decide) ?_
          exact ih_7 _ _ hf _ _ _ hP hD hS (lv_sub hl [0, 1] rfl)
  exact L_7 _ _ _ hf _ _ _ hP hD hS (lv_sub hl [0, 1] rfl)
def f_X4_evening (m0 : MS) : Option (Int32 × MS) := bd1 (f_X4_copies_d_e m0) (fun m2 => bd2 (f_X4_items m2) (fun r4 m5 => jn1 (s4_taped m5 (0 : Int32)) (fun m_6 => if (g4_fault m_6) < 0 then some (r4, m_6) else bd1 (f_X4_copies_e_d m_6) (fun m9 => some (((-1 : Int32) - (g4_fault m9)), m9)))))
set_option maxHeartbeats 4000000 in
set_option maxRecDepth 100000 in
theorem c_X4_evening (l : Launch) (E : EV) (a : Nat → Nat) (m0 : MS)  (r : Int32) (m0' : MS) (hf : f_X4_evening m0 = some (r, m0')) : Ct l E yX4_evening cX4_evening 2 ((Option.some FieldType.int)) (rmk 6 129) [.ref (a 0)] (wX4 E a m0) (wX4 E a m0') (some (.int r)) := by
  refine Ct.of (by decide) (Nat.le_of_ble_eq_true rfl) ?_
  intro p e s m below meth c A ls hC hP hD hl
  obtain ⟨hx, hb, hr, hml, hown, hlocks, hE, hA⟩ := hC
  have hts : ∀ w ∈ tbl, w.before [.ref (a 0)].toArray s = true := fun w hw => hE.w hw
  have hS : va_S A s.heap s.heap [] := va_S.rf
  have hl : lv_has ls 2 [(0, .ref (a 0))] := hl
  unfold f_X4_evening at hf
  refine lv_aload_n hx hb dX4_evening_0 rfl (lv_at hl 0 rfl) ?_
  refine va_get (D := E.1) (ci := 4) (v := .ref (a 1)) (C := RX4) (T := TX4) (N := 18) hx hb hts inX4 hown hE.2.1 hP 0 rfl rfl 0 (by decide) (hE.w tw_598) (fun _ h9 => h9) rfl dX4_evening_1 ?_
  refine lv_aload_n hx hb dX4_evening_4 rfl (lv_at hl 0 rfl) ?_
  refine va_get (D := E.1) (ci := 4) (v := .ref (a 2)) (C := RX4) (T := TX4) (N := 18) hx hb hts inX4 hown hE.2.1 hP 0 rfl rfl 1 (by decide) (hE.w tw_599) (fun _ h9 => h9) rfl dX4_evening_5 ?_
  obtain ⟨m2, hc1, hf⟩ := bd1_some hf
  refine cS (X := List.take 0 (wX4 E a m0)) (Y := List.drop 12 (wX4 E a m0)) (w := (wX4 E a m0)) (w' := (wX4 E a m2)) lk_X4_129 hx hb hml hown hE hA (c_X4_copies_d_e l E a m0 m2 hc1) rfl rfl hP hD hS ⟨rfl, rfl, Nat.le_of_ble_eq_true rfl, Nat.le_of_ble_eq_true rfl⟩ hl.1 (As := [.ref (a 1), .ref (a 2)]) (rest := []) rfl rfl (Nat.le_of_ble_eq_true rfl) ⟨Nat.zero_le _, Nat.zero_le _⟩ dX4_evening_8 (fun H locs hP hD hS => ?_)
  refine W.eq (g2 := F0 m 11 ls []) rfl ?_
  refine lv_aload_n hx hb dX4_evening_11 rfl (lv_at hl 0 rfl) ?_
  obtain ⟨r4, m5, hc3, hf⟩ := bd2_some hf
  refine cV (X := List.take 0 (wX4 E a m2)) (Y := List.drop 12 (wX4 E a m2)) (w := (wX4 E a m2)) (w' := (wX4 E a m5)) (q0 := 0) lk_X4_260 hx hb hml hown hE hA (c_X4_items l E a m2 r4 m5 hc3) rfl rfl hP hD hS rfl rfl ⟨rfl, rfl, Nat.le_of_ble_eq_true rfl, Nat.le_of_ble_eq_true rfl⟩ hl.1 (As := []) (rest := []) rfl rfl (Nat.le_of_ble_eq_true rfl) ⟨Nat.zero_le _, Nat.zero_le _⟩ dX4_evening_12 (fun H locs hP hD hS => ?_)
  refine W.eq (g2 := F0 m 15 ls [.int r4]) rfl ?_
  refine lv_istore_n (lv' := [(1, .int r4), (0, .ref (a 0))]) hx hb dX4_evening_15 rfl hl (by decide) rfl (fun ls hl => ?_)
  refine lv_aload_n hx hb dX4_evening_16 rfl (lv_at hl 1 rfl) ?_
  refine lv_iconst (v := (0 : Int32)) hx hb dX4_evening_17 (by decide) ?_
  obtain ⟨m_6, em_6, hf⟩ := jn1_some hf
  refine va_put (D := E.1) (ci := 4) (v := .int (0 : Int32)) (ty := .int) (C := RX4) (T := TX4) (N := 18) hx hb hts inX4 tyX4 tyX4_ok nmX4 hown hE.2.1 hP hD hS 0 rfl rfl 7 (by decide) (hE.w tw_605) (fun _ h9 => h9) rfl (by decide +kernel) rfl rfl (Nat.le_of_ble_eq_true rfl) dX4_evening_18 (fun H locs hP hD hS => ?_)
  have hP : va_P E.1 vwCl (wX4 E a m_6) H := wst (by rw [em_6]; exact rfl) hP
  have hD : va_D A (wX4 E a m_6) := wsd (by rw [em_6]; exact rfl) hD
  refine lv_aload_n hx hb dX4_evening_21 rfl (lv_at hl 1 rfl) ?_
  refine va_get (D := E.1) (ci := 4) (v := .int (g4_fault m_6)) (C := RX4) (T := TX4) (N := 18) hx hb hts inX4 hown hE.2.1 hP 0 rfl rfl 13 (by decide) (hE.w tw_611) (fun _ h9 => h9) rfl dX4_evening_22 ?_
  refine lv_if_lt (tgt := 46) hx hb dX4_evening_25 (by decide) (fun c7 => ?_) (fun c7 => ?_)
  · have hf := ip c7 hf
    refine lv_iload_n hx hb dX4_evening_46 rfl (lv_at hl 0 rfl) ?_
    obtain ⟨rfl, rfl⟩ := so2 hf
    exact rt_i hx hb hr hlocks hP hD hS dX4_evening_47
  · have hf := im c7 hf
    refine lv_aload_n hx hb dX4_evening_28 rfl (lv_at hl 1 rfl) ?_
    refine va_get (D := E.1) (ci := 4) (v := .ref (a 2)) (C := RX4) (T := TX4) (N := 18) hx hb hts inX4 hown hE.2.1 hP 0 rfl rfl 1 (by decide) (hE.w tw_599) (fun _ h9 => h9) rfl dX4_evening_29 ?_
    refine lv_aload_n hx hb dX4_evening_32 rfl (lv_at hl 1 rfl) ?_
    refine va_get (D := E.1) (ci := 4) (v := .ref (a 1)) (C := RX4) (T := TX4) (N := 18) hx hb hts inX4 hown hE.2.1 hP 0 rfl rfl 0 (by decide) (hE.w tw_598) (fun _ h9 => h9) rfl dX4_evening_33 ?_
    obtain ⟨m9, hc8, hf⟩ := bd1_some hf
    refine cS (X := List.take 0 (wX4 E a m_6)) (Y := List.drop 12 (wX4 E a m_6)) (w := (wX4 E a m_6)) (w' := (wX4 E a m9)) lk_X4_129 hx hb hml hown hE hA (c_X4_copies_e_d l E a m_6 m9 hc8) rfl rfl hP hD hS ⟨rfl, rfl, Nat.le_of_ble_eq_true rfl, Nat.le_of_ble_eq_true rfl⟩ hl.1 (As := [.ref (a 2), .ref (a 1)]) (rest := []) rfl rfl (Nat.le_of_ble_eq_true rfl) ⟨Nat.zero_le _, Nat.zero_le _⟩ dX4_evening_36 (fun H locs hP hD hS => ?_)
    refine W.eq (g2 := F0 m 39 ls []) rfl ?_
    refine lv_iconst (v := (-1 : Int32)) hx hb dX4_evening_39 (by decide) ?_
    refine lv_aload_n hx hb dX4_evening_40 rfl (lv_at hl 1 rfl) ?_
    refine va_get (D := E.1) (ci := 4) (v := .int (g4_fault m9)) (C := RX4) (T := TX4) (N := 18) hx hb hts inX4 hown hE.2.1 hP 0 rfl rfl 13 (by decide) (hE.w tw_611) (fun _ h9 => h9) rfl dX4_evening_41 ?_
    refine lv_isub hx hb dX4_evening_44 ?_
    obtain ⟨rfl, rfl⟩ := so2 hf
    exact rt_i hx hb hr hlocks hP hD hS dX4_evening_45
