def lp_X4_next_185  : Nat → (MS) → Option (MS)
  | 0, _ => none
  | k_15 + 1, m0_15 => bd1 (f_X4_byteAt m0_15 (g4_at m0_15)) (fun r17 => bd1 (f_X4_isDigit r17) (fun r19 => if (bI r19) = 0 then some (m0_15) else bd1 (if (g4_value m0_15) ≤ (999 : Int64) then bd1 (f_X4_byteAt m0_15 (g4_at m0_15)) (fun r26 => some (((((g4_value m0_15) * (10 : Int64)) + (r26.toInt64)) - (48 : Int64)))) else some ((g4_value m0_15))) (fun x22 => lp_X4_next_185  k_15 (s4_value (s4_at m0_15 ((g4_at m0_15) + (1 : Int32))) x22))))
def lp_X4_next_103  : Nat → (MS) → Option (MS)
  | 0, _ => none
  | k_27 + 1, m0_27 => bd1 (f_X4_byteAt m0_27 (g4_at m0_27)) (fun r29 => bd1 (f_X4_letter r29) (fun r31 => if r31 ≤ 0 then some (m0_27) else bd1 (if (g4_value m0_27) ≤ (100000000000000000 : Int64) then bd1 (f_X4_byteAt m0_27 (g4_at m0_27)) (fun r38 => bd1 (f_X4_letter r38) (fun r40 => some ((((g4_value m0_27) * (27 : Int64)) + (r40.toInt64))))) else some ((g4_value m0_27))) (fun x34 => lp_X4_next_103  k_27 (s4_value (s4_at m0_27 ((g4_at m0_27) + (1 : Int32))) x34))))
def lp_X4_next_0  : Nat → (MS) → Option (MS)
  | 0, _ => none
  | k_1 + 1, m0_1 => bd1 (f_X4_byteAt m0_1 (g4_at m0_1)) (fun r3 => if r3 = (32 : Int32) then lp_X4_next_0  k_1 (s4_at m0_1 ((g4_at m0_1) + (1 : Int32))) else bd1 (f_X4_byteAt (s4_value (s4_from m0_1 (g4_at m0_1)) (0 : Int64)) (g4_at m0_1)) (fun r6 => if (g4_at m0_1) = (g4_taped m0_1) then some ((s4_value (s4_from (s4_sort m0_1 (0 : Int32)) (g4_at m0_1)) (0 : Int64))) else if r6 = (59 : Int32) then some ((s4_value (s4_from (s4_sort (s4_at m0_1 ((g4_at m0_1) + (1 : Int32))) (3 : Int32)) (g4_at m0_1)) (0 : Int64))) else bd1 (f_X4_letter r6) (fun r10 => if r10 ≤ 0 then bd1 (f_X4_isDigit r6) (fun r13 => if (bI r13) = 0 then some ((s4_value (s4_from (s4_sort m0_1 (4 : Int32)) (g4_at m0_1)) (0 : Int64))) else lp_X4_next_185  FU (s4_value (s4_from (s4_sort m0_1 (2 : Int32)) (g4_at m0_1)) (0 : Int64))) else lp_X4_next_103  FU (s4_value (s4_from (s4_sort m0_1 (1 : Int32)) (g4_at m0_1)) (0 : Int64)))))
def f_X4_next (m0 : MS) : Option (MS) := lp_X4_next_0  FU m0
set_option maxHeartbeats 1000000 in
set_option maxRecDepth 100000 in
theorem c_X4_next (l : Launch) (E : EV) (a : Nat → Nat) (m0 : MS)  (m0' : MS) (hf : f_X4_next m0 = some m0') : Ct l E yX4_next cX4_next 2 (none) (rmk 1 21) [.ref (a 0)] (wX4 E a m0) (wX4 E a m0') none := by
  refine Ct.of (by decide) (Nat.le_of_ble_eq_true rfl) ?_
  intro p e s m below meth c A ls hC hP hD hl
  obtain ⟨hx, hb, hr, hml, hown, hlocks, hE, hA⟩ := hC
  have hts : ∀ w ∈ tbl, w.before [.ref (a 0)].toArray s = true := fun w hw => hE.w hw
  have hS : va_S A s.heap s.heap [] := va_S.rf
  have hl : lv_has ls 2 [(0, .ref (a 0))] := hl
  unfold f_X4_next at hf
  have L_1 : ∀ (k_1 : Nat) (m0_1 : MS), lp_X4_next_0  k_1 m0_1 = some m0' → ∀ (H : Heap) (locs : List Loc) (ls : Array Slot), va_P E.1 vwCl (wX4 E a m0_1) H → va_D A (wX4 E a m0_1) → va_S A s.heap H locs → lv_has ls 2 [(0, .ref (a 0))] → W p l e (rmk 1 21) s m [.ref (a 0)].toArray below meth c H locs 0 0 (MQ below (Qct E A (wX4 E a m0') none) [.ref (a 0)].toArray s 0 0 A) (F0 m 0 ls []) := by
    intro k_1
    induction k_1 with
    | zero =>
      intro m0_1 hf
      rw [lp_X4_next_0] at hf
      cases hf
    | succ k_1 ih_1 =>
      intro m0_1 hf H locs ls hP hD hS hl
      rw [lp_X4_next_0] at hf
      refine lv_aload_n hx hb dX4_next_0 rfl (lv_at hl 0 rfl) ?_
      refine lv_aload_n hx hb dX4_next_1 rfl (lv_at hl 0 rfl) ?_
      refine va_get (D := E.1) (ci := 4) (v := .int (g4_at m0_1)) (C := RX4) (T := TX4) (N := 18) hx hb hts inX4 hown hE.2.1 hP 0 rfl rfl 9 (by decide) (hE.w tw_607) (fun _ h9 => h9) rfl dX4_next_2 ?_
      obtain ⟨r3, hc2, hf⟩ := bd1_some hf
      refine cV (X := List.take 0 (wX4 E a m0_1)) (Y := List.drop 12 (wX4 E a m0_1)) (w := (wX4 E a m0_1)) (w' := (wX4 E a m0_1)) (q0 := 0) lk_X4_163 hx hb hml hown hE hA (c_X4_byteAt l E a m0_1 (g4_at m0_1) r3 hc2) rfl rfl hP hD hS rfl rfl ⟨rfl, rfl, Nat.le_of_ble_eq_true rfl, Nat.le_of_ble_eq_true rfl⟩ hl.1 (As := [.int (g4_at m0_1)]) (rest := []) rfl rfl (Nat.le_of_ble_eq_true rfl) ⟨Nat.zero_le _, Nat.zero_le _⟩ dX4_next_5 (fun H locs hP hD hS => ?_)
      refine W.eq (g2 := F0 m 8 ls [.int r3]) rfl ?_
      refine lv_bipush (v := (32 : Int32)) hx hb dX4_next_8 (by decide) ?_
      refine lv_icmp_ne (tgt := 26) hx hb dX4_next_10 (by decide) (fun c4 => ?_) (fun c4 => ?_)
      · have hf := im c4 hf
        refine lv_aload_n hx hb dX4_next_26 rfl (lv_at hl 0 rfl) ?_
        refine lv_aload_n hx hb dX4_next_27 rfl (lv_at hl 0 rfl) ?_
        refine va_get (D := E.1) (ci := 4) (v := .int (g4_at m0_1)) (C := RX4) (T := TX4) (N := 18) hx hb hts inX4 hown hE.2.1 hP 0 rfl rfl 9 (by decide) (hE.w tw_607) (fun _ h9 => h9) rfl dX4_next_28 ?_
        refine va_put (D := E.1) (ci := 4) (v := .int (g4_at m0_1)) (ty := .int) (C := RX4) (T := TX4) (N := 18) hx hb hts inX4 tyX4 tyX4_ok nmX4 hown hE.2.1 hP hD hS 0 rfl rfl 11 (by decide) (hE.w tw_609) (fun _ h9 => h9) rfl (by decide +kernel) rfl rfl (Nat.le_of_ble_eq_true rfl) dX4_next_31 (fun H locs hP hD hS => ?_)
        have hP : va_P E.1 vwCl (wX4 E a (s4_from m0_1 (g4_at m0_1))) H := hP
        have hD : va_D A (wX4 E a (s4_from m0_1 (g4_at m0_1))) := hD
        refine lv_aload_n hx hb dX4_next_34 rfl (lv_at hl 0 rfl) ?_
        refine lv_lconst (v := (0 : Int64)) hx hb dX4_next_35 (by decide) ?_
        refine va_put (D := E.1) (ci := 4) (v := .long (0 : Int64)) (ty := .long) (C := RX4) (T := TX4) (N := 18) hx hb hts inX4 tyX4 tyX4_ok nmX4 hown hE.2.1 hP hD hS 0 rfl rfl 12 (by decide) (hE.w tw_610) (fun _ h9 => h9) rfl (by decide +kernel) rfl rfl (Nat.le_of_ble_eq_true rfl) dX4_next_36 (fun H locs hP hD hS => ?_)
        have hP : va_P E.1 vwCl (wX4 E a (s4_value (s4_from m0_1 (g4_at m0_1)) (0 : Int64))) H := hP
        have hD : va_D A (wX4 E a (s4_value (s4_from m0_1 (g4_at m0_1)) (0 : Int64))) := hD
        refine lv_aload_n hx hb dX4_next_39 rfl (lv_at hl 0 rfl) ?_
        refine lv_aload_n hx hb dX4_next_40 rfl (lv_at hl 0 rfl) ?_
        refine va_get (D := E.1) (ci := 4) (v := .int (g4_at m0_1)) (C := RX4) (T := TX4) (N := 18) hx hb hts inX4 hown hE.2.1 hP 0 rfl rfl 9 (by decide) (hE.w tw_607) (fun _ h9 => h9) rfl dX4_next_41 ?_
        obtain ⟨r6, hc5, hf⟩ := bd1_some hf
        refine cV (X := List.take 0 (wX4 E a (s4_value (s4_from m0_1 (g4_at m0_1)) (0 : Int64)))) (Y := List.drop 12 (wX4 E a (s4_value (s4_from m0_1 (g4_at m0_1)) (0 : Int64)))) (w := (wX4 E a (s4_value (s4_from m0_1 (g4_at m0_1)) (0 : Int64)))) (w' := (wX4 E a (s4_value (s4_from m0_1 (g4_at m0_1)) (0 : Int64)))) (q0 := 0) lk_X4_163 hx hb hml hown hE hA (c_X4_byteAt l E a (s4_value (s4_from m0_1 (g4_at m0_1)) (0 : Int64)) (g4_at m0_1) r6 hc5) rfl rfl hP hD hS rfl rfl ⟨rfl, rfl, Nat.le_of_ble_eq_true rfl, Nat.le_of_ble_eq_true rfl⟩ hl.1 (As := [.int (g4_at m0_1)]) (rest := []) rfl rfl (Nat.le_of_ble_eq_true rfl) ⟨Nat.zero_le _, Nat.zero_le _⟩ dX4_next_44 (fun H locs hP hD hS => ?_)
        refine W.eq (g2 := F0 m 47 ls [.int r6]) rfl ?_
        refine lv_istore_n (lv' := [(1, .int r6), (0, .ref (a 0))]) hx hb dX4_next_47 rfl hl (by decide) rfl (fun ls hl => ?_)
        refine lv_aload_n hx hb dX4_next_48 rfl (lv_at hl 1 rfl) ?_
        refine va_get (D := E.1) (ci := 4) (v := .int (g4_at m0_1)) (C := RX4) (T := TX4) (N := 18) hx hb hts inX4 hown hE.2.1 hP 0 rfl rfl 9 (by decide) (hE.w tw_607) (fun _ h9 => h9) rfl dX4_next_49 ?_
        refine lv_aload_n hx hb dX4_next_52 rfl (lv_at hl 1 rfl) ?_
        refine va_get (D := E.1) (ci := 4) (v := .int (g4_taped m0_1)) (C := RX4) (T := TX4) (N := 18) hx hb hts inX4 hown hE.2.1 hP 0 rfl rfl 7 (by decide) (hE.w tw_605) (fun _ h9 => h9) rfl dX4_next_53 ?_
        refine lv_icmp_ne (tgt := 67) hx hb dX4_next_56 (by decide) (fun c7 => ?_) (fun c7 => ?_)
        · have hf := im c7 hf
          refine lv_iload_n hx hb dX4_next_67 rfl (lv_at hl 0 rfl) ?_
          refine lv_bipush (v := (59 : Int32)) hx hb dX4_next_68 (by decide) ?_
          refine lv_icmp_ne (tgt := 91) hx hb dX4_next_70 (by decide) (fun c8 => ?_) (fun c8 => ?_)
          · have hf := im c8 hf
            refine lv_iload_n hx hb dX4_next_91 rfl (lv_at hl 0 rfl) ?_
            obtain ⟨r10, hc9, hf⟩ := bd1_some hf
            refine cS (X := List.take 0 (wX4 E a (s4_value (s4_from m0_1 (g4_at m0_1)) (0 : Int64)))) (Y := List.drop 0 (wX4 E a (s4_value (s4_from m0_1 (g4_at m0_1)) (0 : Int64)))) (w := (wX4 E a (s4_value (s4_from m0_1 (g4_at m0_1)) (0 : Int64)))) (w' := (wX4 E a (s4_value (s4_from m0_1 (g4_at m0_1)) (0 : Int64)))) lk_X4_176 hx hb hml hown hE hA (c_X4_letter l E r6 r10 hc9) rfl rfl hP hD hS ⟨rfl, rfl, Nat.le_of_ble_eq_true rfl, Nat.le_of_ble_eq_true rfl⟩ hl.1 (As := [.int r6]) (rest := []) rfl rfl (Nat.le_of_ble_eq_true rfl) ⟨Nat.zero_le _, Nat.zero_le _⟩ dX4_next_92 (fun H locs hP hD hS => ?_)
            refine W.eq (g2 := F0 m 95 ls [.int r10]) rfl ?_
            refine lv_if_le (tgt := 173) hx hb dX4_next_95 (by decide) (fun c11 => ?_) (fun c11 => ?_)
            · have hf := ip c11 hf
              refine lv_iload_n hx hb dX4_next_173 rfl (lv_at hl 0 rfl) ?_
              obtain ⟨r13, hc12, hf⟩ := bd1_some hf
              refine cS (X := List.take 0 (wX4 E a (s4_value (s4_from m0_1 (g4_at m0_1)) (0 : Int64)))) (Y := List.drop 0 (wX4 E a (s4_value (s4_from m0_1 (g4_at m0_1)) (0 : Int64)))) (w := (wX4 E a (s4_value (s4_from m0_1 (g4_at m0_1)) (0 : Int64)))) (w' := (wX4 E a (s4_value (s4_from m0_1 (g4_at m0_1)) (0 : Int64)))) lk_X4_183 hx hb hml hown hE hA (c_X4_isDigit l E r6 r13 hc12) rfl rfl hP hD hS ⟨rfl, rfl, Nat.le_of_ble_eq_true rfl, Nat.le_of_ble_eq_true rfl⟩ hl.1 (As := [.int r6]) (rest := []) rfl rfl (Nat.le_of_ble_eq_true rfl) ⟨Nat.zero_le _, Nat.zero_le _⟩ dX4_next_174 (fun H locs hP hD hS => ?_)
              refine W.eq (g2 := F0 m 177 ls [.int (bI r13)]) rfl ?_
              refine lv_if_eq (tgt := 256) hx hb dX4_next_177 (by decide) (fun c14 => ?_) (fun c14 => ?_)
              · have hf := ip c14 hf
                refine lv_aload_n hx hb dX4_next_256 rfl (lv_at hl 1 rfl) ?_
                refine lv_iconst (v := (4 : Int32)) hx hb dX4_next_257 (by decide) ?_
                refine va_put (D := E.1) (ci := 4) (v := .int (4 : Int32)) (ty := .int) (C := RX4) (T := TX4) (N := 18) hx hb hts inX4 tyX4 tyX4_ok nmX4 hown hE.2.1 hP hD hS 0 rfl rfl 10 (by decide) (hE.w tw_608) (fun _ h9 => h9) rfl (by decide +kernel) rfl rfl (Nat.le_of_ble_eq_true rfl) dX4_next_258 (fun H locs hP hD hS => ?_)
                have hP : va_P E.1 vwCl (wX4 E a (s4_value (s4_from (s4_sort m0_1 (4 : Int32)) (g4_at m0_1)) (0 : Int64))) H := hP
                have hD : va_D A (wX4 E a (s4_value (s4_from (s4_sort m0_1 (4 : Int32)) (g4_at m0_1)) (0 : Int64))) := hD
                obtain rfl := so1 hf
                exact rt_v hx hb hr hlocks hP hD hS dX4_next_261
              · have hf := im c14 hf
                refine lv_aload_n hx hb dX4_next_180 rfl (lv_at hl 1 rfl) ?_
                refine lv_iconst (v := (2 : Int32)) hx hb dX4_next_181 (by decide) ?_
                refine va_put (D := E.1) (ci := 4) (v := .int (2 : Int32)) (ty := .int) (C := RX4) (T := TX4) (N := 18) hx hb hts inX4 tyX4 tyX4_ok nmX4 hown hE.2.1 hP hD hS 0 rfl rfl 10 (by decide) (hE.w tw_608) (fun _ h9 => h9) rfl (by decide +kernel) rfl rfl (Nat.le_of_ble_eq_true rfl) dX4_next_182 (fun H locs hP hD hS => ?_)
                have hP : va_P E.1 vwCl (wX4 E a (s4_value (s4_from (s4_sort m0_1 (2 : Int32)) (g4_at m0_1)) (0 : Int64))) H := hP
                have hD : va_D A (wX4 E a (s4_value (s4_from (s4_sort m0_1 (2 : Int32)) (g4_at m0_1)) (0 : Int64))) := hD
                have L_15 : ∀ (k_15 : Nat) (m0_15 : MS), lp_X4_next_185  k_15 m0_15 = some m0' → ∀ (H : Heap) (locs : List Loc) (ls : Array Slot), va_P E.1 vwCl (wX4 E a m0_15) H → va_D A (wX4 E a m0_15) → va_S A s.heap H locs → lv_has ls 2 [(1, .int r6), (0, .ref (a 0))] → W p l e (rmk 1 21) s m [.ref (a 0)].toArray below meth c H locs 0 0 (MQ below (Qct E A (wX4 E a m0') none) [.ref (a 0)].toArray s 0 0 A) (F0 m 185 ls []) := by
                  intro k_15
                  induction k_15 with
                  | zero =>
                    intro m0_15 hf
                    rw [lp_X4_next_185] at hf
                    cases hf
                  | succ k_15 ih_15 =>
                    intro m0_15 hf H locs ls hP hD hS hl
                    rw [lp_X4_next_185] at hf
                    refine lv_aload_n hx hb dX4_next_185 rfl (lv_at hl 1 rfl) ?_
                    refine lv_aload_n hx hb dX4_next_186 rfl (lv_at hl 1 rfl) ?_
                    refine va_get (D := E.1) (ci := 4) (v := .int (g4_at m0_15)) (C := RX4) (T := TX4) (N := 18) hx hb hts inX4 hown hE.2.1 hP 0 rfl rfl 9 (by decide) (hE.w tw_607) (fun _ h9 => h9) rfl dX4_next_187 ?_
                    obtain ⟨r17, hc16, hf⟩ := bd1_some hf
                    refine cV (X := List.take 0 (wX4 E a m0_15)) (Y := List.drop 12 (wX4 E a m0_15)) (w := (wX4 E a m0_15)) (w' := (wX4 E a m0_15)) (q0 := 0) lk_X4_163 hx hb hml hown hE hA (c_X4_byteAt l E a m0_15 (g4_at m0_15) r17 hc16) rfl rfl hP hD hS rfl rfl ⟨rfl, rfl, Nat.le_of_ble_eq_true rfl, Nat.le_of_ble_eq_true rfl⟩ hl.1 (As := [.int (g4_at m0_15)]) (rest := []) rfl rfl (Nat.le_of_ble_eq_true rfl) ⟨Nat.zero_le _, Nat.zero_le _⟩ dX4_next_190 (fun H locs hP hD hS => ?_)
                    refine W.eq (g2 := F0 m 193 ls [.int r17]) rfl ?_
                    obtain ⟨r19, hc18, hf⟩ := bd1_some hf
                    refine cS (X := List.take 0 (wX4 E a m0_15)) (Y := List.drop 0 (wX4 E a m0_15)) (w := (wX4 E a m0_15)) (w' := (wX4 E a m0_15)) lk_X4_183 hx hb hml hown hE hA (c_X4_isDigit l E r17 r19 hc18) rfl rfl hP hD hS ⟨rfl, rfl, Nat.le_of_ble_eq_true rfl, Nat.le_of_ble_eq_true rfl⟩ hl.1 (As := [.int r17]) (rest := []) rfl rfl (Nat.le_of_ble_eq_true rfl) ⟨Nat.zero_le _, Nat.zero_le _⟩ dX4_next_193 (fun H locs hP hD hS => ?_)
                    refine W.eq (g2 := F0 m 196 ls [.int (bI r19)]) rfl ?_
                    refine lv_if_eq (tgt := 261) hx hb dX4_next_196 (by decide) (fun c20 => ?_) (fun c20 => ?_)
                    · have hf := ip c20 hf
                      obtain rfl := so1 hf
                      exact rt_v hx hb hr hlocks hP hD hS dX4_next_261
                    · have hf := im c20 hf
                      refine lv_aload_n hx hb dX4_next_199 rfl (lv_at hl 1 rfl) ?_
                      refine lv_aload_n hx hb dX4_next_200 rfl (lv_at hl 1 rfl) ?_
                      refine va_get (D := E.1) (ci := 4) (v := .long (g4_value m0_15)) (C := RX4) (T := TX4) (N := 18) hx hb hts inX4 hown hE.2.1 hP 0 rfl rfl 12 (by decide) (hE.w tw_610) (fun _ h9 => h9) rfl dX4_next_201 ?_
                      refine lv_ldc2 (v := (999 : Int64)) hx hb hown (hE.w tw_884) dX4_next_204 ?_
                      refine W.lcmp hx hb dX4_next_207 ?_
                      obtain ⟨x22, hq24, hf⟩ := bd1_some hf
                      have J23 : ∀ (H : Heap) (locs : List Loc) (ls : Array Slot), va_P E.1 vwCl (wX4 E a m0_15) H → va_D A (wX4 E a m0_15) → va_S A s.heap H locs → lv_has ls 2 [(1, .int r6), (0, .ref (a 0))] → W p l e (rmk 1 21) s m [.ref (a 0)].toArray below meth c H locs 0 0 (MQ below (Qct E A (wX4 E a m0') none) [.ref (a 0)].toArray s 0 0 A) (F0 m 240 ls [.long x22, .ref (a 0)]) := by
                        intro H locs ls hP hD hS hl
                        refine va_put (D := E.1) (ci := 4) (v := .long x22) (ty := .long) (C := RX4) (T := TX4) (N := 18) hx hb hts inX4 tyX4 tyX4_ok nmX4 hown hE.2.1 hP hD hS 0 rfl rfl 12 (by decide) (hE.w tw_610) (fun _ h9 => h9) rfl (by decide +kernel) rfl rfl (Nat.le_of_ble_eq_true rfl) dX4_next_240 (fun H locs hP hD hS => ?_)
                        have hP : va_P E.1 vwCl (wX4 E a (s4_value m0_15 x22)) H := hP
                        have hD : va_D A (wX4 E a (s4_value m0_15 x22)) := hD
                        refine lv_aload_n hx hb dX4_next_243 rfl (lv_at hl 1 rfl) ?_
                        refine lv_dup hx hb dX4_next_244 rfl ?_
                        refine va_get (D := E.1) (ci := 4) (v := .int (g4_at m0_15)) (C := RX4) (T := TX4) (N := 18) hx hb hts inX4 hown hE.2.1 hP 0 rfl rfl 9 (by decide) (hE.w tw_607) (fun _ h9 => h9) rfl dX4_next_245 ?_
                        refine lv_iconst (v := (1 : Int32)) hx hb dX4_next_248 (by decide) ?_
                        refine lv_iadd hx hb dX4_next_249 ?_
                        refine va_put (D := E.1) (ci := 4) (v := .int ((g4_at m0_15) + (1 : Int32))) (ty := .int) (C := RX4) (T := TX4) (N := 18) hx hb hts inX4 tyX4 tyX4_ok nmX4 hown hE.2.1 hP hD hS 0 rfl rfl 9 (by decide) (hE.w tw_607) (fun _ h9 => h9) rfl (by decide +kernel) rfl rfl (Nat.le_of_ble_eq_true rfl) dX4_next_250 (fun H locs hP hD hS => ?_)
                        have hP : va_P E.1 vwCl (wX4 E a (s4_value (s4_at m0_15 ((g4_at m0_15) + (1 : Int32))) x22)) H := hP
                        have hD : va_D A (wX4 E a (s4_value (s4_at m0_15 ((g4_at m0_15) + (1 : Int32))) x22)) := hD
                        refine lv_goto (tgt := 185) hx hb dX4_next_253 (by decide) ?_
                        exact ih_15 _ hf _ _ _ hP hD hS (lv_sub hl [0, 1] rfl)
                      refine lv_if_le (tgt := 218) hx hb dX4_next_208 (by decide) (fun c21 => ?_) (fun c21 => ?_)
                      · have c21 := (lg_cmp_le _ _).mp c21
                        have hq24 := ip c21 hq24
                        refine lv_aload_n hx hb dX4_next_218 rfl (lv_at hl 1 rfl) ?_
                        refine va_get (D := E.1) (ci := 4) (v := .long (g4_value m0_15)) (C := RX4) (T := TX4) (N := 18) hx hb hts inX4 hown hE.2.1 hP 0 rfl rfl 12 (by decide) (hE.w tw_610) (fun _ h9 => h9) rfl dX4_next_219 ?_
                        refine lv_ldc2 (v := (10 : Int64)) hx hb hown (hE.w tw_885) dX4_next_222 ?_
                        refine lv_lmul hx hb dX4_next_225 ?_
                        refine lv_aload_n hx hb dX4_next_226 rfl (lv_at hl 1 rfl) ?_
                        refine lv_aload_n hx hb dX4_next_227 rfl (lv_at hl 1 rfl) ?_
                        refine va_get (D := E.1) (ci := 4) (v := .int (g4_at m0_15)) (C := RX4) (T := TX4) (N := 18) hx hb hts inX4 hown hE.2.1 hP 0 rfl rfl 9 (by decide) (hE.w tw_607) (fun _ h9 => h9) rfl dX4_next_228 ?_
                        obtain ⟨r26, hc25, hq24⟩ := bd1_some hq24
                        refine cV (X := List.take 0 (wX4 E a m0_15)) (Y := List.drop 12 (wX4 E a m0_15)) (w := (wX4 E a m0_15)) (w' := (wX4 E a m0_15)) (q0 := 0) lk_X4_163 hx hb hml hown hE hA (c_X4_byteAt l E a m0_15 (g4_at m0_15) r26 hc25) rfl rfl hP hD hS rfl rfl ⟨rfl, rfl, Nat.le_of_ble_eq_true rfl, Nat.le_of_ble_eq_true rfl⟩ hl.1 (As := [.int (g4_at m0_15)]) (rest := [.long ((g4_value m0_15) * (10 : Int64)), .ref (a 0)]) rfl rfl (Nat.le_of_ble_eq_true rfl) ⟨Nat.zero_le _, Nat.zero_le _⟩ dX4_next_231 (fun H locs hP hD hS => ?_)
                        refine W.eq (g2 := F0 m 234 ls [.int r26, .long ((g4_value m0_15) * (10 : Int64)), .ref (a 0)]) rfl ?_
                        refine lv_i2l (v := (r26.toInt64)) hx hb dX4_next_234 rfl ?_
                        refine lv_ladd hx hb dX4_next_235 ?_
                        refine lv_ldc2 (v := (48 : Int64)) hx hb hown (hE.w tw_886) dX4_next_236 ?_
                        refine lv_lsub hx hb dX4_next_239 ?_
                        obtain rfl := so1 hq24
                        exact J23 _ _ _ hP hD hS (lv_sub hl [0, 1] rfl)
                      · have c21 := fun h => c21 ((lg_cmp_le _ _).mpr h)
                        have hq24 := im c21 hq24
                        refine lv_aload_n hx hb dX4_next_211 rfl (lv_at hl 1 rfl) ?_
                        refine va_get (D := E.1) (ci := 4) (v := .long (g4_value m0_15)) (C := RX4) (T := TX4) (N := 18) hx hb hts inX4 hown hE.2.1 hP 0 rfl rfl 12 (by decide) (hE.w tw_610) (fun _ h9 => h9) rfl dX4_next_212 ?_
                        refine lv_goto (tgt := 240) hx hb dX4_next_215 (by decide) ?_
                        obtain rfl := so1 hq24
                        exact J23 _ _ _ hP hD hS (lv_sub hl [0, 1] rfl)
                exact L_15 _ _ hf _ _ _ hP hD hS (lv_sub hl [0, 1] rfl)
            · have hf := im c11 hf
              refine lv_aload_n hx hb dX4_next_98 rfl (lv_at hl 1 rfl) ?_
              refine lv_iconst (v := (1 : Int32)) hx hb dX4_next_99 (by decide) ?_
              refine va_put (D := E.1) (ci := 4) (v := .int (1 : Int32)) (ty := .int) (C := RX4) (T := TX4) (N := 18) hx hb hts inX4 tyX4 tyX4_ok nmX4 hown hE.2.1 hP hD hS 0 rfl rfl 10 (by decide) (hE.w tw_608) (fun _ h9 => h9) rfl (by decide +kernel) rfl rfl (Nat.le_of_ble_eq_true rfl) dX4_next_100 (fun H locs hP hD hS => ?_)
              have hP : va_P E.1 vwCl (wX4 E a (s4_value (s4_from (s4_sort m0_1 (1 : Int32)) (g4_at m0_1)) (0 : Int64))) H := hP
              have hD : va_D A (wX4 E a (s4_value (s4_from (s4_sort m0_1 (1 : Int32)) (g4_at m0_1)) (0 : Int64))) := hD
              have L_27 : ∀ (k_27 : Nat) (m0_27 : MS), lp_X4_next_103  k_27 m0_27 = some m0' → ∀ (H : Heap) (locs : List Loc) (ls : Array Slot), va_P E.1 vwCl (wX4 E a m0_27) H → va_D A (wX4 E a m0_27) → va_S A s.heap H locs → lv_has ls 2 [(1, .int r6), (0, .ref (a 0))] → W p l e (rmk 1 21) s m [.ref (a 0)].toArray below meth c H locs 0 0 (MQ below (Qct E A (wX4 E a m0') none) [.ref (a 0)].toArray s 0 0 A) (F0 m 103 ls []) := by
                intro k_27
                induction k_27 with
                | zero =>
                  intro m0_27 hf
                  rw [lp_X4_next_103] at hf
                  cases hf
                | succ k_27 ih_27 =>
                  intro m0_27 hf H locs ls hP hD hS hl
                  rw [lp_X4_next_103] at hf
                  refine lv_aload_n hx hb dX4_next_103 rfl (lv_at hl 1 rfl) ?_
                  refine lv_aload_n hx hb dX4_next_104 rfl (lv_at hl 1 rfl) ?_
                  refine va_get (D := E.1) (ci := 4) (v := .int (g4_at m0_27)) (C := RX4) (T := TX4) (N := 18) hx hb hts inX4 hown hE.2.1 hP 0 rfl rfl 9 (by decide) (hE.w tw_607) (fun _ h9 => h9) rfl dX4_next_105 ?_
                  obtain ⟨r29, hc28, hf⟩ := bd1_some hf
                  refine cV (X := List.take 0 (wX4 E a m0_27)) (Y := List.drop 12 (wX4 E a m0_27)) (w := (wX4 E a m0_27)) (w' := (wX4 E a m0_27)) (q0 := 0) lk_X4_163 hx hb hml hown hE hA (c_X4_byteAt l E a m0_27 (g4_at m0_27) r29 hc28) rfl rfl hP hD hS rfl rfl ⟨rfl, rfl, Nat.le_of_ble_eq_true rfl, Nat.le_of_ble_eq_true rfl⟩ hl.1 (As := [.int (g4_at m0_27)]) (rest := []) rfl rfl (Nat.le_of_ble_eq_true rfl) ⟨Nat.zero_le _, Nat.zero_le _⟩ dX4_next_108 (fun H locs hP hD hS => ?_)
                  refine W.eq (g2 := F0 m 111 ls [.int r29]) rfl ?_
                  obtain ⟨r31, hc30, hf⟩ := bd1_some hf
                  refine cS (X := List.take 0 (wX4 E a m0_27)) (Y := List.drop 0 (wX4 E a m0_27)) (w := (wX4 E a m0_27)) (w' := (wX4 E a m0_27)) lk_X4_176 hx hb hml hown hE hA (c_X4_letter l E r29 r31 hc30) rfl rfl hP hD hS ⟨rfl, rfl, Nat.le_of_ble_eq_true rfl, Nat.le_of_ble_eq_true rfl⟩ hl.1 (As := [.int r29]) (rest := []) rfl rfl (Nat.le_of_ble_eq_true rfl) ⟨Nat.zero_le _, Nat.zero_le _⟩ dX4_next_111 (fun H locs hP hD hS => ?_)
                  refine W.eq (g2 := F0 m 114 ls [.int r31]) rfl ?_
                  refine lv_if_le (tgt := 261) hx hb dX4_next_114 (by decide) (fun c32 => ?_) (fun c32 => ?_)
                  · have hf := ip c32 hf
                    obtain rfl := so1 hf
                    exact rt_v hx hb hr hlocks hP hD hS dX4_next_261
                  · have hf := im c32 hf
                    refine lv_aload_n hx hb dX4_next_117 rfl (lv_at hl 1 rfl) ?_
                    refine lv_aload_n hx hb dX4_next_118 rfl (lv_at hl 1 rfl) ?_
                    refine va_get (D := E.1) (ci := 4) (v := .long (g4_value m0_27)) (C := RX4) (T := TX4) (N := 18) hx hb hts inX4 hown hE.2.1 hP 0 rfl rfl 12 (by decide) (hE.w tw_610) (fun _ h9 => h9) rfl dX4_next_119 ?_
                    refine lv_ldc2 (v := (100000000000000000 : Int64)) hx hb hown (hE.w tw_879) dX4_next_122 ?_
                    refine W.lcmp hx hb dX4_next_125 ?_
                    obtain ⟨x34, hq36, hf⟩ := bd1_some hf
                    have J35 : ∀ (H : Heap) (locs : List Loc) (ls : Array Slot), va_P E.1 vwCl (wX4 E a m0_27) H → va_D A (wX4 E a m0_27) → va_S A s.heap H locs → lv_has ls 2 [(1, .int r6), (0, .ref (a 0))] → W p l e (rmk 1 21) s m [.ref (a 0)].toArray below meth c H locs 0 0 (MQ below (Qct E A (wX4 E a m0') none) [.ref (a 0)].toArray s 0 0 A) (F0 m 157 ls [.long x34, .ref (a 0)]) := by
                      intro H locs ls hP hD hS hl
                      refine va_put (D := E.1) (ci := 4) (v := .long x34) (ty := .long) (C := RX4) (T := TX4) (N := 18) hx hb hts inX4 tyX4 tyX4_ok nmX4 hown hE.2.1 hP hD hS 0 rfl rfl 12 (by decide) (hE.w tw_610) (fun _ h9 => h9) rfl (by decide +kernel) rfl rfl (Nat.le_of_ble_eq_true rfl) dX4_next_157 (fun H locs hP hD hS => ?_)
                      have hP : va_P E.1 vwCl (wX4 E a (s4_value m0_27 x34)) H := hP
                      have hD : va_D A (wX4 E a (s4_value m0_27 x34)) := hD
                      refine lv_aload_n hx hb dX4_next_160 rfl (lv_at hl 1 rfl) ?_
                      refine lv_dup hx hb dX4_next_161 rfl ?_
                      refine va_get (D := E.1) (ci := 4) (v := .int (g4_at m0_27)) (C := RX4) (T := TX4) (N := 18) hx hb hts inX4 hown hE.2.1 hP 0 rfl rfl 9 (by decide) (hE.w tw_607) (fun _ h9 => h9) rfl dX4_next_162 ?_
                      refine lv_iconst (v := (1 : Int32)) hx hb dX4_next_165 (by decide) ?_
                      refine lv_iadd hx hb dX4_next_166 ?_
                      refine va_put (D := E.1) (ci := 4) (v := .int ((g4_at m0_27) + (1 : Int32))) (ty := .int) (C := RX4) (T := TX4) (N := 18) hx hb hts inX4 tyX4 tyX4_ok nmX4 hown hE.2.1 hP hD hS 0 rfl rfl 9 (by decide) (hE.w tw_607) (fun _ h9 => h9) rfl (by decide +kernel) rfl rfl (Nat.le_of_ble_eq_true rfl) dX4_next_167 (fun H locs hP hD hS => ?_)
                      have hP : va_P E.1 vwCl (wX4 E a (s4_value (s4_at m0_27 ((g4_at m0_27) + (1 : Int32))) x34)) H := hP
                      have hD : va_D A (wX4 E a (s4_value (s4_at m0_27 ((g4_at m0_27) + (1 : Int32))) x34)) := hD
                      refine lv_goto (tgt := 103) hx hb dX4_next_170 (by decide) ?_
                      exact ih_27 _ hf _ _ _ hP hD hS (lv_sub hl [0, 1] rfl)
                    refine lv_if_le (tgt := 136) hx hb dX4_next_126 (by decide) (fun c33 => ?_) (fun c33 => ?_)
                    · have c33 := (lg_cmp_le _ _).mp c33
                      have hq36 := ip c33 hq36
                      refine lv_aload_n hx hb dX4_next_136 rfl (lv_at hl 1 rfl) ?_
                      refine va_get (D := E.1) (ci := 4) (v := .long (g4_value m0_27)) (C := RX4) (T := TX4) (N := 18) hx hb hts inX4 hown hE.2.1 hP 0 rfl rfl 12 (by decide) (hE.w tw_610) (fun _ h9 => h9) rfl dX4_next_137 ?_
                      refine lv_ldc2 (v := (27 : Int64)) hx hb hown (hE.w tw_880) dX4_next_140 ?_
                      refine lv_lmul hx hb dX4_next_143 ?_
                      refine lv_aload_n hx hb dX4_next_144 rfl (lv_at hl 1 rfl) ?_
                      refine lv_aload_n hx hb dX4_next_145 rfl (lv_at hl 1 rfl) ?_
                      refine va_get (D := E.1) (ci := 4) (v := .int (g4_at m0_27)) (C := RX4) (T := TX4) (N := 18) hx hb hts inX4 hown hE.2.1 hP 0 rfl rfl 9 (by decide) (hE.w tw_607) (fun _ h9 => h9) rfl dX4_next_146 ?_
                      obtain ⟨r38, hc37, hq36⟩ := bd1_some hq36
                      refine cV (X := List.take 0 (wX4 E a m0_27)) (Y := List.drop 12 (wX4 E a m0_27)) (w := (wX4 E a m0_27)) (w' := (wX4 E a m0_27)) (q0 := 0) lk_X4_163 hx hb hml hown hE hA (c_X4_byteAt l E a m0_27 (g4_at m0_27) r38 hc37) rfl rfl hP hD hS rfl rfl ⟨rfl, rfl, Nat.le_of_ble_eq_true rfl, Nat.le_of_ble_eq_true rfl⟩ hl.1 (As := [.int (g4_at m0_27)]) (rest := [.long ((g4_value m0_27) * (27 : Int64)), .ref (a 0)]) rfl rfl (Nat.le_of_ble_eq_true rfl) ⟨Nat.zero_le _, Nat.zero_le _⟩ dX4_next_149 (fun H locs hP hD hS => ?_)
                      refine W.eq (g2 := F0 m 152 ls [.int r38, .long ((g4_value m0_27) * (27 : Int64)), .ref (a 0)]) rfl ?_
                      obtain ⟨r40, hc39, hq36⟩ := bd1_some hq36
                      refine cS (X := List.take 0 (wX4 E a m0_27)) (Y := List.drop 0 (wX4 E a m0_27)) (w := (wX4 E a m0_27)) (w' := (wX4 E a m0_27)) lk_X4_176 hx hb hml hown hE hA (c_X4_letter l E r38 r40 hc39) rfl rfl hP hD hS ⟨rfl, rfl, Nat.le_of_ble_eq_true rfl, Nat.le_of_ble_eq_true rfl⟩ hl.1 (As := [.int r38]) (rest := [.long ((g4_value m0_27) * (27 : Int64)), .ref (a 0)]) rfl rfl (Nat.le_of_ble_eq_true rfl) ⟨Nat.zero_le _, Nat.zero_le _⟩ dX4_next_152 (fun H locs hP hD hS => ?_)
                      refine W.eq (g2 := F0 m 155 ls [.int r40, .long ((g4_value m0_27) * (27 : Int64)), .ref (a 0)]) rfl ?_
                      refine lv_i2l (v := (r40.toInt64)) hx hb dX4_next_155 rfl ?_
                      refine lv_ladd hx hb dX4_next_156 ?_
                      obtain rfl := so1 hq36
                      exact J35 _ _ _ hP hD hS (lv_sub hl [0, 1] rfl)
                    · have c33 := fun h => c33 ((lg_cmp_le _ _).mpr h)
                      have hq36 := im c33 hq36
                      refine lv_aload_n hx hb dX4_next_129 rfl (lv_at hl 1 rfl) ?_
                      refine va_get (D := E.1) (ci := 4) (v := .long (g4_value m0_27)) (C := RX4) (T := TX4) (N := 18) hx hb hts inX4 hown hE.2.1 hP 0 rfl rfl 12 (by decide) (hE.w tw_610) (fun _ h9 => h9) rfl dX4_next_130 ?_
                      refine lv_goto (tgt := 157) hx hb dX4_next_133 (by decide) ?_
                      obtain rfl := so1 hq36
                      exact J35 _ _ _ hP hD hS (lv_sub hl [0, 1] rfl)
              exact L_27 _ _ hf _ _ _ hP hD hS (lv_sub hl [0, 1] rfl)
          · have hf := ip c8 hf
            refine lv_aload_n hx hb dX4_next_73 rfl (lv_at hl 1 rfl) ?_
            refine lv_iconst (v := (3 : Int32)) hx hb dX4_next_74 (by decide) ?_
            refine va_put (D := E.1) (ci := 4) (v := .int (3 : Int32)) (ty := .int) (C := RX4) (T := TX4) (N := 18) hx hb hts inX4 tyX4 tyX4_ok nmX4 hown hE.2.1 hP hD hS 0 rfl rfl 10 (by decide) (hE.w tw_608) (fun _ h9 => h9) rfl (by decide +kernel) rfl rfl (Nat.le_of_ble_eq_true rfl) dX4_next_75 (fun H locs hP hD hS => ?_)
            have hP : va_P E.1 vwCl (wX4 E a (s4_value (s4_from (s4_sort m0_1 (3 : Int32)) (g4_at m0_1)) (0 : Int64))) H := hP
            have hD : va_D A (wX4 E a (s4_value (s4_from (s4_sort m0_1 (3 : Int32)) (g4_at m0_1)) (0 : Int64))) := hD
            refine lv_aload_n hx hb dX4_next_78 rfl (lv_at hl 1 rfl) ?_
            refine lv_dup hx hb dX4_next_79 rfl ?_
            refine va_get (D := E.1) (ci := 4) (v := .int (g4_at m0_1)) (C := RX4) (T := TX4) (N := 18) hx hb hts inX4 hown hE.2.1 hP 0 rfl rfl 9 (by decide) (hE.w tw_607) (fun _ h9 => h9) rfl dX4_next_80 ?_
            refine lv_iconst (v := (1 : Int32)) hx hb dX4_next_83 (by decide) ?_
            refine lv_iadd hx hb dX4_next_84 ?_
            refine va_put (D := E.1) (ci := 4) (v := .int ((g4_at m0_1) + (1 : Int32))) (ty := .int) (C := RX4) (T := TX4) (N := 18) hx hb hts inX4 tyX4 tyX4_ok nmX4 hown hE.2.1 hP hD hS 0 rfl rfl 9 (by decide) (hE.w tw_607) (fun _ h9 => h9) rfl (by decide +kernel) rfl rfl (Nat.le_of_ble_eq_true rfl) dX4_next_85 (fun H locs hP hD hS => ?_)
            have hP : va_P E.1 vwCl (wX4 E a (s4_value (s4_from (s4_sort (s4_at m0_1 ((g4_at m0_1) + (1 : Int32))) (3 : Int32)) (g4_at m0_1)) (0 : Int64))) H := hP
            have hD : va_D A (wX4 E a (s4_value (s4_from (s4_sort (s4_at m0_1 ((g4_at m0_1) + (1 : Int32))) (3 : Int32)) (g4_at m0_1)) (0 : Int64))) := hD
            refine lv_goto (tgt := 261) hx hb dX4_next_88 (by decide) ?_
            obtain rfl := so1 hf
            exact rt_v hx hb hr hlocks hP hD hS dX4_next_261
        · have hf := ip c7 hf
          refine lv_aload_n hx hb dX4_next_59 rfl (lv_at hl 1 rfl) ?_
          refine lv_iconst (v := (0 : Int32)) hx hb dX4_next_60 (by decide) ?_
          refine va_put (D := E.1) (ci := 4) (v := .int (0 : Int32)) (ty := .int) (C := RX4) (T := TX4) (N := 18) hx hb hts inX4 tyX4 tyX4_ok nmX4 hown hE.2.1 hP hD hS 0 rfl rfl 10 (by decide) (hE.w tw_608) (fun _ h9 => h9) rfl (by decide +kernel) rfl rfl (Nat.le_of_ble_eq_true rfl) dX4_next_61 (fun H locs hP hD hS => ?_)
          have hP : va_P E.1 vwCl (wX4 E a (s4_value (s4_from (s4_sort m0_1 (0 : Int32)) (g4_at m0_1)) (0 : Int64))) H := hP
          have hD : va_D A (wX4 E a (s4_value (s4_from (s4_sort m0_1 (0 : Int32)) (g4_at m0_1)) (0 : Int64))) := hD
          refine lv_goto (tgt := 261) hx hb dX4_next_64 (by decide) ?_
          obtain rfl := so1 hf
          exact rt_v hx hb hr hlocks hP hD hS dX4_next_261
      · have hf := ip c4 hf
        refine lv_aload_n hx hb dX4_next_13 rfl (lv_at hl 0 rfl) ?_
        refine lv_dup hx hb dX4_next_14 rfl ?_
        refine va_get (D := E.1) (ci := 4) (v := .int (g4_at m0_1)) (C := RX4) (T := TX4) (N := 18) hx hb hts inX4 hown hE.2.1 hP 0 rfl rfl 9 (by decide) (hE.w tw_607) (fun _ h9 => h9) rfl dX4_next_15 ?_
        refine lv_iconst (v := (1 : Int32)) hx hb dX4_next_18 (by decide) ?_
        refine lv_iadd hx hb dX4_next_19 ?_
        refine va_put (D := E.1) (ci := 4) (v := .int ((g4_at m0_1) + (1 : Int32))) (ty := .int) (C := RX4) (T := TX4) (N := 18) hx hb hts inX4 tyX4 tyX4_ok nmX4 hown hE.2.1 hP hD hS 0 rfl rfl 9 (by decide) (hE.w tw_607) (fun _ h9 => h9) rfl (by decide +kernel) rfl rfl (Nat.le_of_ble_eq_true rfl) dX4_next_20 (fun H locs hP hD hS => ?_)
        have hP : va_P E.1 vwCl (wX4 E a (s4_at m0_1 ((g4_at m0_1) + (1 : Int32)))) H := hP
        have hD : va_D A (wX4 E a (s4_at m0_1 ((g4_at m0_1) + (1 : Int32)))) := hD
        refine lv_goto (tgt := 0) hx hb dX4_next_23 (by decide) ?_
        exact ih_1 _ hf _ _ _ hP hD hS (lv_sub hl [0] rfl)
  exact L_1 _ _ hf _ _ _ hP hD hS (lv_sub hl [0] rfl)
