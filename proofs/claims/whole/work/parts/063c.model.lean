def f_X4_wrongHere (m0 : MS) : Option (MS) := jn1 (if 0 ≤ (g4_fault m0) then ((g4_fault m0)) else ((g4_from m0))) (fun x2 => jn1 (s4_fault m0 x2) (fun m_5 => some (m_5)))
set_option maxHeartbeats 4000000 in
set_option maxRecDepth 100000 in
theorem c_X4_wrongHere (l : Launch) (E : EV) (a : Nat → Nat) (m0 : MS)  (m0' : MS) (hf : f_X4_wrongHere m0 = some m0') : Ct l E yX4_wrongHere cX4_wrongHere 1 (none) (rmk 0 0) [.ref (a 0)] (wX4 E a m0) (wX4 E a m0') none := by
  refine Ct.of (by decide) (Nat.le_of_ble_eq_true rfl) ?_
  intro p e s m below meth c A ls hC hP hD hl
  obtain ⟨hx, hb, hr, hml, hown, hlocks, hE, hA⟩ := hC
  have hts : ∀ w ∈ tbl, w.before [.ref (a 0)].toArray s = true := fun w hw => hE.w hw
  have hS : va_S A s.heap s.heap [] := va_S.rf
  have hl : lv_has ls 1 [(0, .ref (a 0))] := hl
  unfold f_X4_wrongHere at hf
  refine lv_aload_n hx hb dX4_wrongHere_0 rfl (lv_at hl 0 rfl) ?_
  refine lv_aload_n hx hb dX4_wrongHere_1 rfl (lv_at hl 0 rfl) ?_
  refine va_get (D := E.1) (ci := 4) (v := .int (g4_fault m0)) (C := RX4) (T := TX4) (N := 18) hx hb hts inX4 hown hE.2.1 hP 0 rfl rfl 13 (by decide) (hE.w tw_611) (fun _ h9 => h9) rfl dX4_wrongHere_2 ?_
  obtain ⟨x2, hq4, hf⟩ := jn1_some hf
  have J3 : ∀ (H : Heap) (locs : List Loc) (ls : Array Slot), va_P E.1 vwCl (wX4 E a m0) H → va_D A (wX4 E a m0) → va_S A s.heap H locs → lv_has ls 1 [(0, .ref (a 0))] → W p l e (rmk 0 0) s m [.ref (a 0)].toArray below meth c H locs 0 0 (MQ below (Qct E A (wX4 E a m0') none) [.ref (a 0)].toArray s 0 0 A) (F0 m 19 ls [.int x2, .ref (a 0)]) := by
    intro H locs ls hP hD hS hl
    obtain ⟨m_5, em_5, hf⟩ := jn1_some hf
    refine va_put (D := E.1) (ci := 4) (v := .int x2) (ty := .int) (C := RX4) (T := TX4) (N := 18) hx hb hts inX4 tyX4 tyX4_ok nmX4 hown hE.2.1 hP hD hS 0 rfl rfl 13 (by decide) (hE.w tw_611) (fun _ h9 => h9) rfl (by decide +kernel) rfl rfl (Nat.le_of_ble_eq_true rfl) dX4_wrongHere_19 (fun H locs hP hD hS => ?_)
    have hP : va_P E.1 vwCl (wX4 E a m_5) H := wst (by rw [em_5]; exact rfl) hP
    have hD : va_D A (wX4 E a m_5) := wsd (by rw [em_5]; exact rfl) hD
    obtain rfl := so1 hf
    exact rt_v hx hb hr hlocks hP hD hS dX4_wrongHere_22
  refine lv_if_ge (tgt := 15) hx hb dX4_wrongHere_5 (by decide) (fun c1 => ?_) (fun c1 => ?_)
  · have hq4 := ie c1 hq4
    refine lv_aload_n hx hb dX4_wrongHere_15 rfl (lv_at hl 0 rfl) ?_
    refine va_get (D := E.1) (ci := 4) (v := .int (g4_fault m0)) (C := RX4) (T := TX4) (N := 18) hx hb hts inX4 hown hE.2.1 hP 0 rfl rfl 13 (by decide) (hE.w tw_611) (fun _ h9 => h9) rfl dX4_wrongHere_16 ?_
    obtain rfl := pj1 hq4
    exact J3 _ _ _ hP hD hS (lv_sub hl [0] rfl)
  · have hq4 := ien c1 hq4
    refine lv_aload_n hx hb dX4_wrongHere_8 rfl (lv_at hl 0 rfl) ?_
    refine va_get (D := E.1) (ci := 4) (v := .int (g4_from m0)) (C := RX4) (T := TX4) (N := 18) hx hb hts inX4 hown hE.2.1 hP 0 rfl rfl 11 (by decide) (hE.w tw_609) (fun _ h9 => h9) rfl dX4_wrongHere_9 ?_
    refine lv_goto (tgt := 19) hx hb dX4_wrongHere_12 (by decide) ?_
    obtain rfl := pj1 hq4
    exact J3 _ _ _ hP hD hS (lv_sub hl [0] rfl)
def f_X4_isWord (m0 : MS) (p1 : Int64) : Option (Bool) := if (g4_sort m0) = (1 : Int32) then if (g4_value m0) = p1 then some (true) else some (false) else some (false)
set_option maxHeartbeats 4000000 in
set_option maxRecDepth 100000 in
theorem c_X4_isWord (l : Launch) (E : EV) (a : Nat → Nat) (m0 : MS) (p1 : Int64)  (r : Bool) (hf : f_X4_isWord m0 p1 = some r) : Ct l E yX4_isWord cX4_isWord 3 ((Option.some FieldType.boolean)) (rmk 0 0) [.ref (a 0), .long p1] (wX4 E a m0) (wX4 E a m0) (some (.int (bI r))) := by
  refine Ct.of (by decide) (Nat.le_of_ble_eq_true rfl) ?_
  intro p e s m below meth c A ls hC hP hD hl
  obtain ⟨hx, hb, hr, hml, hown, hlocks, hE, hA⟩ := hC
  have hts : ∀ w ∈ tbl, w.before [.ref (a 0), .long p1].toArray s = true := fun w hw => hE.w hw
  have hS : va_S A s.heap s.heap [] := va_S.rf
  have hl : lv_has ls 3 [(0, .ref (a 0)), (1, .long p1)] := hl
  unfold f_X4_isWord at hf
  refine lv_aload_n hx hb dX4_isWord_0 rfl (lv_at hl 0 rfl) ?_
  refine va_get (D := E.1) (ci := 4) (v := .int (g4_sort m0)) (C := RX4) (T := TX4) (N := 18) hx hb hts inX4 hown hE.2.1 hP 0 rfl rfl 10 (by decide) (hE.w tw_608) (fun _ h9 => h9) rfl dX4_isWord_1 ?_
  refine lv_iconst (v := (1 : Int32)) hx hb dX4_isWord_4 (by decide) ?_
  refine lv_icmp_ne (tgt := 21) hx hb dX4_isWord_5 (by decide) (fun c1 => ?_) (fun c1 => ?_)
  · have hf := im c1 hf
    refine lv_iconst (v := (0 : Int32)) hx hb dX4_isWord_21 (by decide) ?_
    obtain rfl := so1 hf
    exact rt_z (bI_nar _) hx hb hr hlocks hP hD hS dX4_isWord_22
  · have hf := ip c1 hf
    refine lv_aload_n hx hb dX4_isWord_8 rfl (lv_at hl 0 rfl) ?_
    refine va_get (D := E.1) (ci := 4) (v := .long (g4_value m0)) (C := RX4) (T := TX4) (N := 18) hx hb hts inX4 hown hE.2.1 hP 0 rfl rfl 12 (by decide) (hE.w tw_610) (fun _ h9 => h9) rfl dX4_isWord_9 ?_
    refine lv_lload_n hx hb dX4_isWord_12 rfl (lv_at hl 1 rfl) ?_
    refine W.lcmp hx hb dX4_isWord_13 ?_
    refine lv_if_ne (tgt := 21) hx hb dX4_isWord_14 (by decide) (fun c2 => ?_) (fun c2 => ?_)
    · have c2 := fun h => c2 ((lg_cmp_eq _ _).mpr h)
      have hf := im c2 hf
      refine lv_iconst (v := (0 : Int32)) hx hb dX4_isWord_21 (by decide) ?_
      obtain rfl := so1 hf
      exact rt_z (bI_nar _) hx hb hr hlocks hP hD hS dX4_isWord_22
    · have c2 := (lg_cmp_eq _ _).mp c2
      have hf := ip c2 hf
      refine lv_iconst (v := (1 : Int32)) hx hb dX4_isWord_17 (by decide) ?_
      refine lv_goto (tgt := 22) hx hb dX4_isWord_18 (by decide) ?_
      obtain rfl := so1 hf
      exact rt_z (bI_nar _) hx hb hr hlocks hP hD hS dX4_isWord_22
def f_X4_kindHere (m0 : MS) : Option (Int32) := bd1 (f_X4_isWord m0 (277820595 : Int64)) (fun r2 => if (bI r2) = 0 then bd1 (f_X4_isWord m0 (1388799099 : Int64)) (fun r5 => if (bI r5) = 0 then bd1 (f_X4_isWord m0 (332792298 : Int64)) (fun r8 => if (bI r8) = 0 then bd1 (f_X4_isWord m0 (7535943612 : Int64)) (fun r11 => if (bI r11) = 0 then bd1 (f_X4_isWord m0 (49456661 : Int64)) (fun r14 => if (bI r14) = 0 then bd1 (f_X4_isWord m0 (12403634 : Int64)) (fun r17 => if (bI r17) = 0 then some ((-1 : Int32)) else some ((5 : Int32))) else some ((4 : Int32))) else some ((3 : Int32))) else some ((2 : Int32))) else some ((1 : Int32))) else some ((0 : Int32)))
set_option maxHeartbeats 4000000 in
set_option maxRecDepth 100000 in
theorem c_X4_kindHere (l : Launch) (E : EV) (a : Nat → Nat) (m0 : MS)  (r : Int32) (hf : f_X4_kindHere m0 = some r) : Ct l E yX4_kindHere cX4_kindHere 1 ((Option.some FieldType.int)) (rmk 1 22) [.ref (a 0)] (wX4 E a m0) (wX4 E a m0) (some (.int r)) := by
  refine Ct.of (by decide) (Nat.le_of_ble_eq_true rfl) ?_
  intro p e s m below meth c A ls hC hP hD hl
  obtain ⟨hx, hb, hr, hml, hown, hlocks, hE, hA⟩ := hC
  have hts : ∀ w ∈ tbl, w.before [.ref (a 0)].toArray s = true := fun w hw => hE.w hw
  have hS : va_S A s.heap s.heap [] := va_S.rf
  have hl : lv_has ls 1 [(0, .ref (a 0))] := hl
  unfold f_X4_kindHere at hf
  refine lv_aload_n hx hb dX4_kindHere_0 rfl (lv_at hl 0 rfl) ?_
  refine lv_ldc2 (v := (277820595 : Int64)) hx hb hown (hE.w tw_895) dX4_kindHere_1 ?_
  obtain ⟨r2, hc1, hf⟩ := bd1_some hf
  refine cV (X := List.take 0 (wX4 E a m0)) (Y := List.drop 12 (wX4 E a m0)) (w := (wX4 E a m0)) (w' := (wX4 E a m0)) (q0 := 0) lk_X4_197 hx hb hml hown hE hA (c_X4_isWord l E a m0 (277820595 : Int64) r2 hc1) rfl rfl hP hD hS rfl rfl ⟨rfl, rfl, Nat.le_of_ble_eq_true rfl, Nat.le_of_ble_eq_true rfl⟩ hl.1 (As := [.long (277820595 : Int64)]) (rest := []) rfl rfl (Nat.le_of_ble_eq_true rfl) ⟨Nat.zero_le _, Nat.zero_le _⟩ dX4_kindHere_4 (fun H locs hP hD hS => ?_)
  refine W.eq (g2 := F0 m 7 ls [.int (bI r2)]) rfl ?_
  refine lv_if_eq (tgt := 14) hx hb dX4_kindHere_7 (by decide) (fun c3 => ?_) (fun c3 => ?_)
  · have hf := ip c3 hf
    refine lv_aload_n hx hb dX4_kindHere_14 rfl (lv_at hl 0 rfl) ?_
    refine lv_ldc2 (v := (1388799099 : Int64)) hx hb hown (hE.w tw_900) dX4_kindHere_15 ?_
    obtain ⟨r5, hc4, hf⟩ := bd1_some hf
    refine cV (X := List.take 0 (wX4 E a m0)) (Y := List.drop 12 (wX4 E a m0)) (w := (wX4 E a m0)) (w' := (wX4 E a m0)) (q0 := 0) lk_X4_197 hx hb hml hown hE hA (c_X4_isWord l E a m0 (1388799099 : Int64) r5 hc4) rfl rfl hP hD hS rfl rfl ⟨rfl, rfl, Nat.le_of_ble_eq_true rfl, Nat.le_of_ble_eq_true rfl⟩ hl.1 (As := [.long (1388799099 : Int64)]) (rest := []) rfl rfl (Nat.le_of_ble_eq_true rfl) ⟨Nat.zero_le _, Nat.zero_le _⟩ dX4_kindHere_18 (fun H locs hP hD hS => ?_)
    refine W.eq (g2 := F0 m 21 ls [.int (bI r5)]) rfl ?_
    refine lv_if_eq (tgt := 28) hx hb dX4_kindHere_21 (by decide) (fun c6 => ?_) (fun c6 => ?_)
    · have hf := ip c6 hf
      refine lv_aload_n hx hb dX4_kindHere_28 rfl (lv_at hl 0 rfl) ?_
      refine lv_ldc2 (v := (332792298 : Int64)) hx hb hown (hE.w tw_901) dX4_kindHere_29 ?_
      obtain ⟨r8, hc7, hf⟩ := bd1_some hf
      refine cV (X := List.take 0 (wX4 E a m0)) (Y := List.drop 12 (wX4 E a m0)) (w := (wX4 E a m0)) (w' := (wX4 E a m0)) (q0 := 0) lk_X4_197 hx hb hml hown hE hA (c_X4_isWord l E a m0 (332792298 : Int64) r8 hc7) rfl rfl hP hD hS rfl rfl ⟨rfl, rfl, Nat.le_of_ble_eq_true rfl, Nat.le_of_ble_eq_true rfl⟩ hl.1 (As := [.long (332792298 : Int64)]) (rest := []) rfl rfl (Nat.le_of_ble_eq_true rfl) ⟨Nat.zero_le _, Nat.zero_le _⟩ dX4_kindHere_32 (fun H locs hP hD hS => ?_)
      refine W.eq (g2 := F0 m 35 ls [.int (bI r8)]) rfl ?_
      refine lv_if_eq (tgt := 42) hx hb dX4_kindHere_35 (by decide) (fun c9 => ?_) (fun c9 => ?_)
      · have hf := ip c9 hf
        refine lv_aload_n hx hb dX4_kindHere_42 rfl (lv_at hl 0 rfl) ?_
        refine lv_ldc2 (v := (7535943612 : Int64)) hx hb hown (hE.w tw_902) dX4_kindHere_43 ?_
        obtain ⟨r11, hc10, hf⟩ := bd1_some hf
        refine cV (X := List.take 0 (wX4 E a m0)) (Y := List.drop 12 (wX4 E a m0)) (w := (wX4 E a m0)) (w' := (wX4 E a m0)) (q0 := 0) lk_X4_197 hx hb hml hown hE hA (c_X4_isWord l E a m0 (7535943612 : Int64) r11 hc10) rfl rfl hP hD hS rfl rfl ⟨rfl, rfl, Nat.le_of_ble_eq_true rfl, Nat.le_of_ble_eq_true rfl⟩ hl.1 (As := [.long (7535943612 : Int64)]) (rest := []) rfl rfl (Nat.le_of_ble_eq_true rfl) ⟨Nat.zero_le _, Nat.zero_le _⟩ dX4_kindHere_46 (fun H locs hP hD hS => ?_)
        refine W.eq (g2 := F0 m 49 ls [.int (bI r11)]) rfl ?_
        refine lv_if_eq (tgt := 56) hx hb dX4_kindHere_49 (by decide) (fun c12 => ?_) (fun c12 => ?_)
        · have hf := ip c12 hf
          refine lv_aload_n hx hb dX4_kindHere_56 rfl (lv_at hl 0 rfl) ?_
          refine lv_ldc2 (v := (49456661 : Int64)) hx hb hown (hE.w tw_903) dX4_kindHere_57 ?_
          obtain ⟨r14, hc13, hf⟩ := bd1_some hf
          refine cV (X := List.take 0 (wX4 E a m0)) (Y := List.drop 12 (wX4 E a m0)) (w := (wX4 E a m0)) (w' := (wX4 E a m0)) (q0 := 0) lk_X4_197 hx hb hml hown hE hA (c_X4_isWord l E a m0 (49456661 : Int64) r14 hc13) rfl rfl hP hD hS rfl rfl ⟨rfl, rfl, Nat.le_of_ble_eq_true rfl, Nat.le_of_ble_eq_true rfl⟩ hl.1 (As := [.long (49456661 : Int64)]) (rest := []) rfl rfl (Nat.le_of_ble_eq_true rfl) ⟨Nat.zero_le _, Nat.zero_le _⟩ dX4_kindHere_60 (fun H locs hP hD hS => ?_)
          refine W.eq (g2 := F0 m 63 ls [.int (bI r14)]) rfl ?_
          refine lv_if_eq (tgt := 70) hx hb dX4_kindHere_63 (by decide) (fun c15 => ?_) (fun c15 => ?_)
          · have hf := ip c15 hf
            refine lv_aload_n hx hb dX4_kindHere_70 rfl (lv_at hl 0 rfl) ?_
            refine lv_ldc2 (v := (12403634 : Int64)) hx hb hown (hE.w tw_904) dX4_kindHere_71 ?_
            obtain ⟨r17, hc16, hf⟩ := bd1_some hf
            refine cV (X := List.take 0 (wX4 E a m0)) (Y := List.drop 12 (wX4 E a m0)) (w := (wX4 E a m0)) (w' := (wX4 E a m0)) (q0 := 0) lk_X4_197 hx hb hml hown hE hA (c_X4_isWord l E a m0 (12403634 : Int64) r17 hc16) rfl rfl hP hD hS rfl rfl ⟨rfl, rfl, Nat.le_of_ble_eq_true rfl, Nat.le_of_ble_eq_true rfl⟩ hl.1 (As := [.long (12403634 : Int64)]) (rest := []) rfl rfl (Nat.le_of_ble_eq_true rfl) ⟨Nat.zero_le _, Nat.zero_le _⟩ dX4_kindHere_74 (fun H locs hP hD hS => ?_)
            refine W.eq (g2 := F0 m 77 ls [.int (bI r17)]) rfl ?_
            refine lv_if_eq (tgt := 84) hx hb dX4_kindHere_77 (by decide) (fun c18 => ?_) (fun c18 => ?_)
            · have hf := ip c18 hf
              refine lv_iconst (v := (-1 : Int32)) hx hb dX4_kindHere_84 (by decide) ?_
              obtain rfl := so1 hf
              exact rt_i hx hb hr hlocks hP hD hS dX4_kindHere_85
            · have hf := im c18 hf
              refine lv_iconst (v := (5 : Int32)) hx hb dX4_kindHere_80 (by decide) ?_
              refine lv_goto (tgt := 85) hx hb dX4_kindHere_81 (by decide) ?_
              obtain rfl := so1 hf
              exact rt_i hx hb hr hlocks hP hD hS dX4_kindHere_85
          · have hf := im c15 hf
            refine lv_iconst (v := (4 : Int32)) hx hb dX4_kindHere_66 (by decide) ?_
            refine lv_goto (tgt := 85) hx hb dX4_kindHere_67 (by decide) ?_
            obtain rfl := so1 hf
            exact rt_i hx hb hr hlocks hP hD hS dX4_kindHere_85
        · have hf := im c12 hf
          refine lv_iconst (v := (3 : Int32)) hx hb dX4_kindHere_52 (by decide) ?_
          refine lv_goto (tgt := 85) hx hb dX4_kindHere_53 (by decide) ?_
          obtain rfl := so1 hf
          exact rt_i hx hb hr hlocks hP hD hS dX4_kindHere_85
      · have hf := im c9 hf
        refine lv_iconst (v := (2 : Int32)) hx hb dX4_kindHere_38 (by decide) ?_
        refine lv_goto (tgt := 85) hx hb dX4_kindHere_39 (by decide) ?_
        obtain rfl := so1 hf
        exact rt_i hx hb hr hlocks hP hD hS dX4_kindHere_85
    · have hf := im c6 hf
      refine lv_iconst (v := (1 : Int32)) hx hb dX4_kindHere_24 (by decide) ?_
      refine lv_goto (tgt := 85) hx hb dX4_kindHere_25 (by decide) ?_
      obtain rfl := so1 hf
      exact rt_i hx hb hr hlocks hP hD hS dX4_kindHere_85
  · have hf := im c3 hf
    refine lv_iconst (v := (0 : Int32)) hx hb dX4_kindHere_10 (by decide) ?_
    refine lv_goto (tgt := 85) hx hb dX4_kindHere_11 (by decide) ?_
    obtain rfl := so1 hf
    exact rt_i hx hb hr hlocks hP hD hS dX4_kindHere_85
def f_X4_cueHere (m0 : MS) : Option (Int32) := bd1 (f_X4_isWord m0 (10497936 : Int64)) (fun r2 => if (bI r2) = 0 then bd1 (f_X4_isWord m0 (14258 : Int64)) (fun r5 => if (bI r5) = 0 then bd1 (f_X4_isWord m0 (6412481 : Int64)) (fun r8 => if (bI r8) = 0 then bd1 (f_X4_isWord m0 (1905074 : Int64)) (fun r11 => if (bI r11) = 0 then bd1 (f_X4_isWord m0 (67840 : Int64)) (fun r14 => if (bI r14) = 0 then some ((-1 : Int32)) else some ((4 : Int32))) else some ((3 : Int32))) else some ((2 : Int32))) else some ((1 : Int32))) else some ((0 : Int32)))
set_option maxHeartbeats 4000000 in
set_option maxRecDepth 100000 in
theorem c_X4_cueHere (l : Launch) (E : EV) (a : Nat → Nat) (m0 : MS)  (r : Int32) (hf : f_X4_cueHere m0 = some r) : Ct l E yX4_cueHere cX4_cueHere 1 ((Option.some FieldType.int)) (rmk 1 22) [.ref (a 0)] (wX4 E a m0) (wX4 E a m0) (some (.int r)) := by
  refine Ct.of (by decide) (Nat.le_of_ble_eq_true rfl) ?_
  intro p e s m below meth c A ls hC hP hD hl
  obtain ⟨hx, hb, hr, hml, hown, hlocks, hE, hA⟩ := hC
  have hts : ∀ w ∈ tbl, w.before [.ref (a 0)].toArray s = true := fun w hw => hE.w hw
  have hS : va_S A s.heap s.heap [] := va_S.rf
  have hl : lv_has ls 1 [(0, .ref (a 0))] := hl
  unfold f_X4_cueHere at hf
  refine lv_aload_n hx hb dX4_cueHere_0 rfl (lv_at hl 0 rfl) ?_
  refine lv_ldc2 (v := (10497936 : Int64)) hx hb hown (hE.w tw_927) dX4_cueHere_1 ?_
  obtain ⟨r2, hc1, hf⟩ := bd1_some hf
  refine cV (X := List.take 0 (wX4 E a m0)) (Y := List.drop 12 (wX4 E a m0)) (w := (wX4 E a m0)) (w' := (wX4 E a m0)) (q0 := 0) lk_X4_197 hx hb hml hown hE hA (c_X4_isWord l E a m0 (10497936 : Int64) r2 hc1) rfl rfl hP hD hS rfl rfl ⟨rfl, rfl, Nat.le_of_ble_eq_true rfl, Nat.le_of_ble_eq_true rfl⟩ hl.1 (As := [.long (10497936 : Int64)]) (rest := []) rfl rfl (Nat.le_of_ble_eq_true rfl) ⟨Nat.zero_le _, Nat.zero_le _⟩ dX4_cueHere_4 (fun H locs hP hD hS => ?_)
  refine W.eq (g2 := F0 m 7 ls [.int (bI r2)]) rfl ?_
  refine lv_if_eq (tgt := 14) hx hb dX4_cueHere_7 (by decide) (fun c3 => ?_) (fun c3 => ?_)
  · have hf := ip c3 hf
    refine lv_aload_n hx hb dX4_cueHere_14 rfl (lv_at hl 0 rfl) ?_
    refine lv_ldc2 (v := (14258 : Int64)) hx hb hown (hE.w tw_928) dX4_cueHere_15 ?_
    obtain ⟨r5, hc4, hf⟩ := bd1_some hf
    refine cV (X := List.take 0 (wX4 E a m0)) (Y := List.drop 12 (wX4 E a m0)) (w := (wX4 E a m0)) (w' := (wX4 E a m0)) (q0 := 0) lk_X4_197 hx hb hml hown hE hA (c_X4_isWord l E a m0 (14258 : Int64) r5 hc4) rfl rfl hP hD hS rfl rfl ⟨rfl, rfl, Nat.le_of_ble_eq_true rfl, Nat.le_of_ble_eq_true rfl⟩ hl.1 (As := [.long (14258 : Int64)]) (rest := []) rfl rfl (Nat.le_of_ble_eq_true rfl) ⟨Nat.zero_le _, Nat.zero_le _⟩ dX4_cueHere_18 (fun H locs hP hD hS => ?_)
    refine W.eq (g2 := F0 m 21 ls [.int (bI r5)]) rfl ?_
    refine lv_if_eq (tgt := 28) hx hb dX4_cueHere_21 (by decide) (fun c6 => ?_) (fun c6 => ?_)
    · have hf := ip c6 hf
      refine lv_aload_n hx hb dX4_cueHere_28 rfl (lv_at hl 0 rfl) ?_
      refine lv_ldc2 (v := (6412481 : Int64)) hx hb hown (hE.w tw_929) dX4_cueHere_29 ?_
      obtain ⟨r8, hc7, hf⟩ := bd1_some hf
      refine cV (X := List.take 0 (wX4 E a m0)) (Y := List.drop 12 (wX4 E a m0)) (w := (wX4 E a m0)) (w' := (wX4 E a m0)) (q0 := 0) lk_X4_197 hx hb hml hown hE hA (c_X4_isWord l E a m0 (6412481 : Int64) r8 hc7) rfl rfl hP hD hS rfl rfl ⟨rfl, rfl, Nat.le_of_ble_eq_true rfl, Nat.le_of_ble_eq_true rfl⟩ hl.1 (As := [.long (6412481 : Int64)]) (rest := []) rfl rfl (Nat.le_of_ble_eq_true rfl) ⟨Nat.zero_le _, Nat.zero_le _⟩ dX4_cueHere_32 (fun H locs hP hD hS => ?_)
      refine W.eq (g2 := F0 m 35 ls [.int (bI r8)]) rfl ?_
      refine lv_if_eq (tgt := 42) hx hb dX4_cueHere_35 (by decide) (fun c9 => ?_) (fun c9 => ?_)
      · have hf := ip c9 hf
        refine lv_aload_n hx hb dX4_cueHere_42 rfl (lv_at hl 0 rfl) ?_
        refine lv_ldc2 (v := (1905074 : Int64)) hx hb hown (hE.w tw_930) dX4_cueHere_43 ?_
        obtain ⟨r11, hc10, hf⟩ := bd1_some hf
        refine cV (X := List.take 0 (wX4 E a m0)) (Y := List.drop 12 (wX4 E a m0)) (w := (wX4 E a m0)) (w' := (wX4 E a m0)) (q0 := 0) lk_X4_197 hx hb hml hown hE hA (c_X4_isWord l E a m0 (1905074 : Int64) r11 hc10) rfl rfl hP hD hS rfl rfl ⟨rfl, rfl, Nat.le_of_ble_eq_true rfl, Nat.le_of_ble_eq_true rfl⟩ hl.1 (As := [.long (1905074 : Int64)]) (rest := []) rfl rfl (Nat.le_of_ble_eq_true rfl) ⟨Nat.zero_le _, Nat.zero_le _⟩ dX4_cueHere_46 (fun H locs hP hD hS => ?_)
        refine W.eq (g2 := F0 m 49 ls [.int (bI r11)]) rfl ?_
        refine lv_if_eq (tgt := 56) hx hb dX4_cueHere_49 (by decide) (fun c12 => ?_) (fun c12 => ?_)
        · have hf := ip c12 hf
          refine lv_aload_n hx hb dX4_cueHere_56 rfl (lv_at hl 0 rfl) ?_
          refine lv_ldc2 (v := (67840 : Int64)) hx hb hown (hE.w tw_931) dX4_cueHere_57 ?_
          obtain ⟨r14, hc13, hf⟩ := bd1_some hf
          refine cV (X := List.take 0 (wX4 E a m0)) (Y := List.drop 12 (wX4 E a m0)) (w := (wX4 E a m0)) (w' := (wX4 E a m0)) (q0 := 0) lk_X4_197 hx hb hml hown hE hA (c_X4_isWord l E a m0 (67840 : Int64) r14 hc13) rfl rfl hP hD hS rfl rfl ⟨rfl, rfl, Nat.le_of_ble_eq_true rfl, Nat.le_of_ble_eq_true rfl⟩ hl.1 (As := [.long (67840 : Int64)]) (rest := []) rfl rfl (Nat.le_of_ble_eq_true rfl) ⟨Nat.zero_le _, Nat.zero_le _⟩ dX4_cueHere_60 (fun H locs hP hD hS => ?_)
          refine W.eq (g2 := F0 m 63 ls [.int (bI r14)]) rfl ?_
          refine lv_if_eq (tgt := 70) hx hb dX4_cueHere_63 (by decide) (fun c15 => ?_) (fun c15 => ?_)
          · have hf := ip c15 hf
            refine lv_iconst (v := (-1 : Int32)) hx hb dX4_cueHere_70 (by decide) ?_
            obtain rfl := so1 hf
            exact rt_i hx hb hr hlocks hP hD hS dX4_cueHere_71
          · have hf := im c15 hf
            refine lv_iconst (v := (4 : Int32)) hx hb dX4_cueHere_66 (by decide) ?_
            refine lv_goto (tgt := 71) hx hb dX4_cueHere_67 (by decide) ?_
            obtain rfl := so1 hf
            exact rt_i hx hb hr hlocks hP hD hS dX4_cueHere_71
        · have hf := im c12 hf
          refine lv_iconst (v := (3 : Int32)) hx hb dX4_cueHere_52 (by decide) ?_
          refine lv_goto (tgt := 71) hx hb dX4_cueHere_53 (by decide) ?_
          obtain rfl := so1 hf
          exact rt_i hx hb hr hlocks hP hD hS dX4_cueHere_71
      · have hf := im c9 hf
        refine lv_iconst (v := (2 : Int32)) hx hb dX4_cueHere_38 (by decide) ?_
        refine lv_goto (tgt := 71) hx hb dX4_cueHere_39 (by decide) ?_
        obtain rfl := so1 hf
        exact rt_i hx hb hr hlocks hP hD hS dX4_cueHere_71
    · have hf := im c6 hf
      refine lv_iconst (v := (1 : Int32)) hx hb dX4_cueHere_24 (by decide) ?_
      refine lv_goto (tgt := 71) hx hb dX4_cueHere_25 (by decide) ?_
      obtain rfl := so1 hf
      exact rt_i hx hb hr hlocks hP hD hS dX4_cueHere_71
  · have hf := im c3 hf
    refine lv_iconst (v := (0 : Int32)) hx hb dX4_cueHere_10 (by decide) ?_
    refine lv_goto (tgt := 71) hx hb dX4_cueHere_11 (by decide) ?_
    obtain rfl := so1 hf
    exact rt_i hx hb hr hlocks hP hD hS dX4_cueHere_71
def f_X4_numberHere (m0 : MS) (p1 : Int32) (p2 : Int32) : Option (Int32 × MS) := if (g4_sort m0) = (2 : Int32) then bd1 (f_X4_in (g4_value m0) (p1.toInt64) (p2.toInt64)) (fun r5 => if (bI r5) = 0 then bd1 (f_X4_wrongHere m0) (fun m10 => some ((0 : Int32), m10)) else bd1 (f_X4_next m0) (fun m8 => some (((g4_value m0).toInt32), m8))) else bd1 (f_X4_wrongHere m0) (fun m3 => some ((0 : Int32), m3))
set_option maxHeartbeats 4000000 in
set_option maxRecDepth 100000 in
theorem c_X4_numberHere (l : Launch) (E : EV) (a : Nat → Nat) (m0 : MS) (p1 : Int32) (p2 : Int32)  (r : Int32) (m0' : MS) (hf : f_X4_numberHere m0 p1 p2 = some (r, m0')) : Ct l E yX4_numberHere cX4_numberHere 4 ((Option.some FieldType.int)) (rmk 2 42) [.ref (a 0), .int p1, .int p2] (wX4 E a m0) (wX4 E a m0') (some (.int r)) := by
  refine Ct.of (by decide) (Nat.le_of_ble_eq_true rfl) ?_
  intro p e s m below meth c A ls hC hP hD hl
  obtain ⟨hx, hb, hr, hml, hown, hlocks, hE, hA⟩ := hC
  have hts : ∀ w ∈ tbl, w.before [.ref (a 0), .int p1, .int p2].toArray s = true := fun w hw => hE.w hw
  have hS : va_S A s.heap s.heap [] := va_S.rf
  have hl : lv_has ls 4 [(0, .ref (a 0)), (1, .int p1), (2, .int p2)] := hl
  unfold f_X4_numberHere at hf
  refine lv_aload_n hx hb dX4_numberHere_0 rfl (lv_at hl 0 rfl) ?_
  refine va_get (D := E.1) (ci := 4) (v := .long (g4_value m0)) (C := RX4) (T := TX4) (N := 18) hx hb hts inX4 hown hE.2.1 hP 0 rfl rfl 12 (by decide) (hE.w tw_610) (fun _ h9 => h9) rfl dX4_numberHere_1 ?_
  refine lv_l2i (v := ((g4_value m0).toInt32)) hx hb dX4_numberHere_4 rfl ?_
  refine lv_istore_n (lv' := [(3, .int ((g4_value m0).toInt32)), (0, .ref (a 0)), (1, .int p1), (2, .int p2)]) hx hb dX4_numberHere_5 rfl hl (by decide) rfl (fun ls hl => ?_)
  refine lv_aload_n hx hb dX4_numberHere_6 rfl (lv_at hl 1 rfl) ?_
  refine va_get (D := E.1) (ci := 4) (v := .int (g4_sort m0)) (C := RX4) (T := TX4) (N := 18) hx hb hts inX4 hown hE.2.1 hP 0 rfl rfl 10 (by decide) (hE.w tw_608) (fun _ h9 => h9) rfl dX4_numberHere_7 ?_
  refine lv_iconst (v := (2 : Int32)) hx hb dX4_numberHere_10 (by decide) ?_
  refine lv_icmp_ne (tgt := 28) hx hb dX4_numberHere_11 (by decide) (fun c1 => ?_) (fun c1 => ?_)
  · have hf := im c1 hf
    refine lv_aload_n hx hb dX4_numberHere_28 rfl (lv_at hl 1 rfl) ?_
    obtain ⟨m3, hc2, hf⟩ := bd1_some hf
    refine cV (X := List.take 0 (wX4 E a m0)) (Y := List.drop 12 (wX4 E a m0)) (w := (wX4 E a m0)) (w' := (wX4 E a m3)) (q0 := 0) lk_X4_221 hx hb hml hown hE hA (c_X4_wrongHere l E a m0 m3 hc2) rfl rfl hP hD hS rfl rfl ⟨rfl, rfl, Nat.le_of_ble_eq_true rfl, Nat.le_of_ble_eq_true rfl⟩ hl.1 (As := []) (rest := []) rfl rfl (Nat.le_of_ble_eq_true rfl) ⟨Nat.zero_le _, Nat.zero_le _⟩ dX4_numberHere_29 (fun H locs hP hD hS => ?_)
    refine W.eq (g2 := F0 m 32 ls []) rfl ?_
    refine lv_iconst (v := (0 : Int32)) hx hb dX4_numberHere_32 (by decide) ?_
    obtain ⟨rfl, rfl⟩ := so2 hf
    exact rt_i hx hb hr hlocks hP hD hS dX4_numberHere_33
  · have hf := ip c1 hf
    refine lv_aload_n hx hb dX4_numberHere_14 rfl (lv_at hl 1 rfl) ?_
    refine va_get (D := E.1) (ci := 4) (v := .long (g4_value m0)) (C := RX4) (T := TX4) (N := 18) hx hb hts inX4 hown hE.2.1 hP 0 rfl rfl 12 (by decide) (hE.w tw_610) (fun _ h9 => h9) rfl dX4_numberHere_15 ?_
    refine lv_iload_n hx hb dX4_numberHere_18 rfl (lv_at hl 2 rfl) ?_
    refine lv_i2l (v := (p1.toInt64)) hx hb dX4_numberHere_19 rfl ?_
    refine lv_iload_n hx hb dX4_numberHere_20 rfl (lv_at hl 3 rfl) ?_
    refine lv_i2l (v := (p2.toInt64)) hx hb dX4_numberHere_21 rfl ?_
    obtain ⟨r5, hc4, hf⟩ := bd1_some hf
    refine cS (X := List.take 0 (wX4 E a m0)) (Y := List.drop 0 (wX4 E a m0)) (w := (wX4 E a m0)) (w' := (wX4 E a m0)) lk_X4_46 hx hb hml hown hE hA (c_X4_in l E (g4_value m0) (p1.toInt64) (p2.toInt64) r5 hc4) rfl rfl hP hD hS ⟨rfl, rfl, Nat.le_of_ble_eq_true rfl, Nat.le_of_ble_eq_true rfl⟩ hl.1 (As := [.long (g4_value m0), .long (p1.toInt64), .long (p2.toInt64)]) (rest := []) rfl rfl (Nat.le_of_ble_eq_true rfl) ⟨Nat.zero_le _, Nat.zero_le _⟩ dX4_numberHere_22 (fun H locs hP hD hS => ?_)
    refine W.eq (g2 := F0 m 25 ls [.int (bI r5)]) rfl ?_
    refine lv_if_ne (tgt := 34) hx hb dX4_numberHere_25 (by decide) (fun c6 => ?_) (fun c6 => ?_)
    · have hf := im c6 hf
      refine lv_aload_n hx hb dX4_numberHere_34 rfl (lv_at hl 1 rfl) ?_
      obtain ⟨m8, hc7, hf⟩ := bd1_some hf
      refine cV (X := List.take 0 (wX4 E a m0)) (Y := List.drop 12 (wX4 E a m0)) (w := (wX4 E a m0)) (w' := (wX4 E a m8)) (q0 := 0) lk_X4_224 hx hb hml hown hE hA (c_X4_next l E a m0 m8 hc7) rfl rfl hP hD hS rfl rfl ⟨rfl, rfl, Nat.le_of_ble_eq_true rfl, Nat.le_of_ble_eq_true rfl⟩ hl.1 (As := []) (rest := []) rfl rfl (Nat.le_of_ble_eq_true rfl) ⟨Nat.zero_le _, Nat.zero_le _⟩ dX4_numberHere_35 (fun H locs hP hD hS => ?_)
      refine W.eq (g2 := F0 m 38 ls []) rfl ?_
      refine lv_iload_n hx hb dX4_numberHere_38 rfl (lv_at hl 0 rfl) ?_
      obtain ⟨rfl, rfl⟩ := so2 hf
      exact rt_i hx hb hr hlocks hP hD hS dX4_numberHere_39
    · have hf := ip c6 hf
      refine lv_aload_n hx hb dX4_numberHere_28 rfl (lv_at hl 1 rfl) ?_
      obtain ⟨m10, hc9, hf⟩ := bd1_some hf
      refine cV (X := List.take 0 (wX4 E a m0)) (Y := List.drop 12 (wX4 E a m0)) (w := (wX4 E a m0)) (w' := (wX4 E a m10)) (q0 := 0) lk_X4_221 hx hb hml hown hE hA (c_X4_wrongHere l E a m0 m10 hc9) rfl rfl hP hD hS rfl rfl ⟨rfl, rfl, Nat.le_of_ble_eq_true rfl, Nat.le_of_ble_eq_true rfl⟩ hl.1 (As := []) (rest := []) rfl rfl (Nat.le_of_ble_eq_true rfl) ⟨Nat.zero_le _, Nat.zero_le _⟩ dX4_numberHere_29 (fun H locs hP hD hS => ?_)
      refine W.eq (g2 := F0 m 32 ls []) rfl ?_
      refine lv_iconst (v := (0 : Int32)) hx hb dX4_numberHere_32 (by decide) ?_
      obtain ⟨rfl, rfl⟩ := so2 hf
      exact rt_i hx hb hr hlocks hP hD hS dX4_numberHere_33
