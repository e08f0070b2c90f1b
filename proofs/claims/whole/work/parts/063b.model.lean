def lp_X4_next_185  : Nat → (MS) → Option (MS)
  | 0, _ => none
  | k_19 + 1, m0_19 => bd1 (f_X4_byteAt m0_19 (g4_at m0_19)) (fun r21 => bd1 (f_X4_isDigit r21) (fun r23 => if (bI r23) = 0 then some (m0_19) else bd1 (if (g4_value m0_19) ≤ (999 : Int64) then bd1 (f_X4_byteAt m0_19 (g4_at m0_19)) (fun r30 => some (((((g4_value m0_19) * (10 : Int64)) + (r30.toInt64)) - (48 : Int64)))) else some ((g4_value m0_19))) (fun x26 => jn1 (s4_value m0_19 x26) (fun m_31 => jn1 (s4_at m_31 ((g4_at m_31) + (1 : Int32))) (fun m_32 => lp_X4_next_185  k_19 m_32)))))
def lp_X4_next_103  : Nat → (MS) → Option (MS)
  | 0, _ => none
  | k_34 + 1, m0_34 => bd1 (f_X4_byteAt m0_34 (g4_at m0_34)) (fun r36 => bd1 (f_X4_letter r36) (fun r38 => if r38 ≤ 0 then some (m0_34) else bd1 (if (g4_value m0_34) ≤ (100000000000000000 : Int64) then bd1 (f_X4_byteAt m0_34 (g4_at m0_34)) (fun r45 => bd1 (f_X4_letter r45) (fun r47 => some ((((g4_value m0_34) * (27 : Int64)) + (r47.toInt64))))) else some ((g4_value m0_34))) (fun x41 => jn1 (s4_value m0_34 x41) (fun m_48 => jn1 (s4_at m_48 ((g4_at m_48) + (1 : Int32))) (fun m_49 => lp_X4_next_103  k_34 m_49)))))
def lp_X4_next_0  : Nat → (MS) → Option (MS)
  | 0, _ => none
  | k_1 + 1, m0_1 => bd1 (f_X4_byteAt m0_1 (g4_at m0_1)) (fun r3 => if r3 = (32 : Int32) then jn1 (s4_at m0_1 ((g4_at m0_1) + (1 : Int32))) (fun m_53 => lp_X4_next_0  k_1 m_53) else jn1 (s4_from m0_1 (g4_at m0_1)) (fun m_5 => jn1 (s4_value m_5 (0 : Int64)) (fun m_6 => bd1 (f_X4_byteAt m_6 (g4_at m_6)) (fun r8 => if (g4_at m_6) = (g4_taped m_6) then jn1 (s4_sort m_6 (0 : Int32)) (fun m_52 => some (m_52)) else if r8 = (59 : Int32) then jn1 (s4_sort m_6 (3 : Int32)) (fun m_50 => jn1 (s4_at m_50 ((g4_at m_50) + (1 : Int32))) (fun m_51 => some (m_51))) else bd1 (f_X4_letter r8) (fun r12 => if r12 ≤ 0 then bd1 (f_X4_isDigit r8) (fun r15 => if (bI r15) = 0 then jn1 (s4_sort m_6 (4 : Int32)) (fun m_17 => some (m_17)) else jn1 (s4_sort m_6 (2 : Int32)) (fun m_18 => lp_X4_next_185  FU m_18)) else jn1 (s4_sort m_6 (1 : Int32)) (fun m_33 => lp_X4_next_103  FU m_33))))))
def f_X4_next (m0 : MS) : Option (MS) := lp_X4_next_0  FU m0
set_option maxHeartbeats 4000000 in
set_option maxRecDepth 100000 in
theorem c_X4_next (l : Launch) (E : EV) (a : Nat → Nat) (m0 : MS)  (m0' : MS) (hf : f_X4_next m0 = some m0') : Ct l E yX4_next cX4_next 2 (none) (rmk 1 21) [.ref (a 0)] (wX4 E a m0) (wX4 E a m0') none := by
  refine Ct.of (by decide) (Nat.le_of_ble_eq_true rfl) ?_
  intro p e s m below meth c A ls hC hP hD hl
  obtain ⟨hx, hb, hr, hml, hown, hlocks, hE, hA⟩ := hC
  have hts : ∀ w ∈ tbl, w.before [.ref (a 0)].toArray s = true := fun w hw => hE.w hw
  have hS : va_S A s.heap s.heap [] := va_S.rf
  have hl : lv_has ls 2 [(0, .ref (a 0))] := hl
  unfold f_X4_next at hf
  have L_1 : ∀ (k_1 : Nat) (m0_1 : MS), lp_X4_next_0  k_1 m0_1 = some m0' → ∀ (H : Heap) (locs : List Loc) (ls : Array Slot), va_P E.1 vwCl (wX4 E a m0_1) H → va_D A (wX4 E a m0_1) → va_S A s.heap H locs → lv_has ls 2 [(0, .ref (a 0))] → W p l e (rmk 1 21) s m [.ref (a 0)].toArray below meth c H locs 0 0 (MQ below (Qct E A (wX4 E a m0') none) [.ref (a 0)].toArray s 0 0 A) (F0 m 0 ls []) := by
    intro k_1
    induction k_1 with
    | zero =>
      intro m0_1 hf
      rw [lp_X4_next_0] at hf
      cases hf
    | succ k_1 ih_1 =>
      intro m0_1 hf H locs ls hP hD hS hl
      rw [lp_X4_next_0] at hf
      refine lv_aload_n hx hb dX4_next_0 rfl (lv_at hl 0 rfl) ?_
      refine lv_aload_n hx hb dX4_next_1 rfl (lv_at hl 0 rfl) ?_
      refine va_get (D := E.1) (ci := 4) (v := .int (g4_at m0_1)) (C := RX4) (T := TX4) (N := 18) hx hb hts inX4 hown hE.2.1 hP 0 rfl rfl 9 (by decide) (hE.w tw_607) (fun _ h9 => h9) rfl dX4_next_2 ?_
      obtain ⟨r3, hc2, hf⟩ := bd1_some hf
      refine cV (X := List.take 0 (wX4 E a m0_1)) (Y := List.drop 12 (wX4 E a m0_1)) (w := (wX4 E a m0_1)) (w' := (wX4 E a m0_1)) (q0 := 0) lk_X4_163 hx hb hml hown hE hA (c_X4_byteAt l E a m0_1 (g4_at m0_1) r3 hc2) rfl rfl hP hD hS rfl rfl ⟨rfl, rfl, Nat.le_of_ble_eq_true rfl, Nat.le_of_ble_eq_true rfl⟩ hl.1 (As := [.int (g4_at m0_1)]) (rest := []) rfl rfl (Nat.le_of_ble_eq_true rfl) ⟨Nat.zero_le _, Nat.zero_le _⟩ dX4_next_5 (fun H locs hP hD hS => ?_)
      refine W.eq (g2 := F0 m 8 ls [.int r3]) rfl ?_
      refine lv_bipush (v := (32 : Int32)) hx hb dX4_next_8 (by decide) ?_
      refine lv_icmp_ne (tgt := 26) hx hb dX4_next_10 (by decide) (fun c4 => ?_) (fun c4 => ?_)
      · have hf := im c4 hf
        refine lv_aload_n hx hb dX4_next_26 rfl (lv_at hl 0 rfl) ?_
        refine lv_aload_n hx hb dX4_next_27 rfl (lv_at hl 0 rfl) ?_
        refine va_get (D := E.1) (ci := 4) (v := .int (g4_at m0_1)) (C := RX4) (T := TX4) (N := 18) hx hb hts inX4 hown hE.2.1 hP 0 rfl rfl 9 (by decide) (hE.w tw_607) (fun _ h9 => h9) rfl dX4_next_28 ?_
        obtain ⟨m_5, em_5, hf⟩ := jn1_some hf
        refine va_put (D := E.1) (ci := 4) (v := .int (g4_at m0_1)) (ty := .int) (C := RX4) (T := TX4) (N := 18) hx hb hts inX4 tyX4 tyX4_ok nmX4 hown hE.2.1 hP hD hS 0 rfl rfl 11 (by decide) (hE.w tw_609) (fun _ h9 => h9) rfl (by decide +kernel) rfl rfl (Nat.le_of_ble_eq_true rfl) dX4_next_31 (fun H locs hP hD hS => ?_)
        have hP : va_P E.1 vwCl (wX4 E a m_5) H := wst (by rw [em_5]; exact rfl) hP
        have hD : va_D A (wX4 E a m_5) := wsd (by rw [em_5]; exact rfl) hD
        refine lv_aload_n hx hb dX4_next_34 rfl (lv_at hl 0 rfl) ?_
        refine lv_lconst (v := (0 : Int64)) hx hb dX4_next_35 (by decide) ?_
        obtain ⟨m_6, em_6, hf⟩ := jn1_some hf
        refine va_put (D := E.1) (ci := 4) (v := .long (0 : Int64)) (ty := .long) (C := RX4) (T := TX4) (N := 18) hx hb hts inX4 tyX4 tyX4_ok nmX4 hown hE.2.1 hP hD hS 0 rfl rfl 12 (by decide) (hE.w tw_610) (fun _ h9 => h9) rfl (by decide +kernel) rfl rfl (Nat.le_of_ble_eq_true rfl) dX4_next_36 (fun H locs hP hD hS => ?_)
        have hP : va_P E.1 vwCl (wX4 E a m_6) H := wst (by rw [em_6]; exact rfl) hP
        have hD : va_D A (wX4 E a m_6) := wsd (by rw [em_6]; exact rfl) hD
        refine lv_aload_n hx hb dX4_next_39 rfl (lv_at hl 0 rfl) ?_
        refine lv_aload_n hx hb dX4_next_40 rfl (lv_at hl 0 rfl) ?_
        refine va_get (D := E.1) (ci := 4) (v := .int (g4_at m_6)) (C := RX4) (T := TX4) (N := 18) hx hb hts inX4 hown hE.2.1 hP 0 rfl rfl 9 (by decide) (hE.w tw_607) (fun _ h9 => h9) rfl dX4_next_41 ?_
        obtain ⟨r8, hc7, hf⟩ := bd1_some hf
        refine cV (X := List.take 0 (wX4 E a m_6)) (Y := List.drop 12 (wX4 E a m_6)) (w := (wX4 E a m_6)) (w' := (wX4 E a m_6)) (q0 := 0) lk_X4_163 hx hb hml hown hE hA (c_X4_byteAt l E a m_6 (g4_at m_6) r8 hc7) rfl rfl hP hD hS rfl rfl ⟨rfl, rfl, Nat.le_of_ble_eq_true rfl, Nat.le_of_ble_eq_true rfl⟩ hl.1 (As := [.int (g4_at m_6)]) (rest := []) rfl rfl (Nat.le_of_ble_eq_true rfl) ⟨Nat.zero_le _, Nat.zero_le _⟩ dX4_next_44 (fun H locs hP hD hS => ?_)
        refine W.eq (g2 := F0 m 47 ls [.int r8]) rfl ?_
        refine lv_istore_n (lv' := [(1, .int r8), (0, .ref (a 0))]) hx hb dX4_next_47 rfl hl (by decide) rfl (fun ls hl => ?_)
        refine lv_aload_n hx hb dX4_next_48 rfl (lv_at hl 1 rfl) ?_
        refine va_get (D := E.1) (ci := 4) (v := .int (g4_at m_6)) (C := RX4) (T := TX4) (N := 18) hx hb hts inX4 hown hE.2.1 hP 0 rfl rfl 9 (by decide) (hE.w tw_607) (fun _ h9 => h9) rfl dX4_next_49 ?_
        refine lv_aload_n hx hb dX4_next_52 rfl (lv_at hl 1 rfl) ?_
        refine va_get (D := E.1) (ci := 4) (v := .int (g4_taped m_6)) (C := RX4) (T := TX4) (N := 18) hx hb hts inX4 hown hE.2.1 hP 0 rfl rfl 7 (by decide) (hE.w tw_605) (fun _ h9 => h9) rfl dX4_next_53 ?_
        refine lv_icmp_ne (tgt := 67) hx hb dX4_next_56 (by decide) (fun c9 => ?_) (fun c9 => ?_)
        · have hf := im c9 hf
          refine lv_iload_n hx hb dX4_next_67 rfl (lv_at hl 0 rfl) ?_
          refine lv_bipush (v := (59 : Int32)) hx hb dX4_next_68 (by decide) ?_
          refine lv_icmp_ne (tgt := 91) hx hb dX4_next_70 (by decide) (fun c10 => ?_) (fun c10 => ?_)
          · have hf := im c10 hf
            refine lv_iload_n hx hb dX4_next_91 rfl (lv_at hl 0 rfl) ?_
            obtain ⟨r12, hc11, hf⟩ := bd1_some hf
            refine cS (X := List.take 0 (wX4 E a m_6)) (Y := List.drop 0 (wX4 E a m_6)) (w := (wX4 E a m_6)) (w' := (wX4 E a m_6)) lk_X4_176 hx hb hml hown hE hA (c_X4_letter l E r8 r12 hc11) rfl rfl hP hD hS ⟨rfl, rfl, Nat.le_of_ble_eq_true rfl, Nat.le_of_ble_eq_true rfl⟩ hl.1 (As := [.int r8]) (rest := []) rfl rfl (Nat.le_of_ble_eq_true rfl) ⟨Nat.zero_le _, Nat.zero_le _⟩ dX4_next_92 (fun H locs hP hD hS => ?_)
            refine W.eq (g2 := F0 m 95 ls [.int r12]) rfl ?_
            refine lv_if_le (tgt := 173) hx hb dX4_next_95 (by decide) (fun c13 => ?_) (fun c13 => ?_)
            · have hf := ip c13 hf
              refine lv_iload_n hx hb dX4_next_173 rfl (lv_at hl 0 rfl) ?_
              obtain ⟨r15, hc14, hf⟩ := bd1_some hf
              refine cS (X := List.take 0 (wX4 E a m_6)) (Y := List.drop 0 (wX4 E a m_6)) (w := (wX4 E a m_6)) (w' := (wX4 E a m_6)) lk_X4_183 hx hb hml hown hE hA (c_X4_isDigit l E r8 r15 hc14) rfl rfl hP hD hS ⟨rfl, rfl, Nat.le_of_ble_eq_true rfl, Nat.le_of_ble_eq_true rfl⟩ hl.1 (As := [.int r8]) (rest := []) rfl rfl (Nat.le_of_ble_eq_true rfl) ⟨Nat.zero_le _, Nat.zero_le _⟩ dX4_next_174 (fun H locs hP hD hS => ?_)
              refine W.eq (g2 := F0 m 177 ls [.int (bI r15)]) rfl ?_
              refine lv_if_eq (tgt := 256) hx hb dX4_next_177 (by decide) (fun c16 => ?_) (fun c16 => ?_)
              · have hf := ip c16 hf
                refine lv_aload_n hx hb dX4_next_256 rfl (lv_at hl 1 rfl) ?_
                refine lv_iconst (v := (4 : Int32)) hx hb dX4_next_257 (by decide) ?_
                obtain ⟨m_17, em_17, hf⟩ := jn1_some hf
                refine va_put (D := E.1) (ci := 4) (v := .int (4 : Int32)) (ty := .int) (C := RX4) (T := TX4) (N := 18) hx hb hts inX4 tyX4 tyX4_ok nmX4 hown hE.2.1 hP hD hS 0 rfl rfl 10 (by decide) (hE.w tw_608) (fun _ h9 => h9) rfl (by decide +kernel) rfl rfl (Nat.le_of_ble_eq_true rfl) dX4_next_258 (fun H locs hP hD hS => ?_)
                have hP : va_P E.1 vwCl (wX4 E a m_17) H := wst (by rw [em_17]; exact rfl) hP
                have hD : va_D A (wX4 E a m_17) := wsd (by rw [em_17]; exact rfl) hD
                obtain rfl := so1 hf
                exact rt_v hx hb hr hlocks hP hD hS dX4_next_261
              · have hf := im c16 hf
                refine lv_aload_n hx hb dX4_next_180 rfl (lv_at hl 1 rfl) ?_
                refine lv_iconst (v := (2 : Int32)) hx hb dX4_next_181 (by decide) ?_
                obtain ⟨m_18, em_18, hf⟩ := jn1_some hf
                refine va_put (D := E.1) (ci := 4) (v := .int (2 : Int32)) (ty := .int) (C := RX4) (T := TX4) (N := 18) hx hb hts inX4 tyX4 tyX4_ok nmX4 hown hE.2.1 hP hD hS 0 rfl rfl 10 (by decide) (hE.w tw_608) (fun _ h9 => h9) rfl (by decide +kernel) rfl rfl (Nat.le_of_ble_eq_true rfl) dX4_next_182 (fun H locs hP hD hS => ?_)
                have hP : va_P E.1 vwCl (wX4 E a m_18) H := wst (by rw [em_18]; exact rfl) hP
                have hD : va_D A (wX4 E a m_18) := wsd (by rw [em_18]; exact rfl) hD
                have L_19 : ∀ (k_19 : Nat) (m0_19 : MS), lp_X4_next_185  k_19 m0_19 = some m0' → ∀ (H : Heap) (locs : List Loc) (ls : Array Slot), va_P E.1 vwCl (wX4 E a m0_19) H → va_D A (wX4 E a m0_19) → va_S A s.heap H locs → lv_has ls 2 [(1, .int r8), (0, .ref (a 0))] → W p l e (rmk 1 21) s m [.ref (a 0)].toArray below meth c H locs 0 0 (MQ below (Qct E A (wX4 E a m0') none) [.ref (a 0)].toArray s 0 0 A) (F0 m 185 ls []) := by
                  intro k_19
                  induction k_19 with
                  | zero =>
                    intro m0_19 hf
                    rw [lp_X4_next_185] at hf
                    cases hf
                  | succ k_19 ih_19 =>
                    intro m0_19 hf H locs ls hP hD hS hl
                    rw [lp_X4_next_185] at hf
                    refine lv_aload_n hx hb dX4_next_185 rfl (lv_at hl 1 rfl) ?_
                    refine lv_aload_n hx hb dX4_next_186 rfl (lv_at hl 1 rfl) ?_
                    refine va_get (D := E.1) (ci := 4) (v := .int (g4_at m0_19)) (C := RX4) (T := TX4) (N := 18) hx hb hts inX4 hown hE.2.1 hP 0 rfl rfl 9 (by decide) (hE.w tw_607) (fun _ h9 => h9) rfl dX4_next_187 ?_
                    obtain ⟨r21, hc20, hf⟩ := bd1_some hf
                    refine cV (X := List.take 0 (wX4 E a m0_19)) (Y := List.drop 12 (wX4 E a m0_19)) (w := (wX4 E a m0_19)) (w' := (wX4 E a m0_19)) (q0 := 0) lk_X4_163 hx hb hml hown hE hA (c_X4_byteAt l E a m0_19 (g4_at m0_19) r21 hc20) rfl rfl hP hD hS rfl rfl ⟨rfl, rfl, Nat.le_of_ble_eq_true rfl, Nat.le_of_ble_eq_true rfl⟩ hl.1 (As := [.int (g4_at m0_19)]) (rest := []) rfl rfl (Nat.le_of_ble_eq_true rfl) ⟨Nat.zero_le _, Nat.zero_le _⟩ dX4_next_190 (fun H locs hP hD hS => ?_)
                    refine W.eq (g2 := F0 m 193 ls [.int r21]) rfl ?_
                    obtain ⟨r23, hc22, hf⟩ := bd1_some hf
                    refine cS (X := List.take 0 (wX4 E a m0_19)) (Y := List.drop 0 (wX4 E a m0_19)) (w := (wX4 E a m0_19)) (w' := (wX4 E a m0_19)) lk_X4_183 hx hb hml hown hE hA (c_X4_isDigit l E r21 r23 hc22) rfl rfl hP hD hS ⟨rfl, rfl, Nat.le_of_ble_eq_true rfl, Nat.le_of_ble_eq_true rfl⟩ hl.1 (As := [.int r21]) (rest := []) rfl rfl (Nat.le_of_ble_eq_true rfl) ⟨Nat.zero_le _, Nat.zero_le _⟩ dX4_next_193 (fun H locs hP hD hS => ?_)
                    refine W.eq (g2 := F0 m 196 ls [.int (bI r23)]) rfl ?_
                    refine lv_if_eq (tgt := 261) hx hb dX4_next_196 (by decide) (fun c24 => ?_) (fun c24 => ?_)
                    · have hf := ip c24 hf
                      obtain rfl := so1 hf
                      exact rt_v hx hb hr hlocks hP hD hS dX4_next_261
                    · have hf := im c24 hf
                      refine lv_aload_n hx hb dX4_next_199 rfl (lv_at hl 1 rfl) ?_
                      refine lv_aload_n hx hb dX4_next_200 rfl (lv_at hl 1 rfl) ?_
                      refine va_get (D := E.1) (ci := 4) (v := .long (g4_value m0_19)) (C := RX4) (T := TX4) (N := 18) hx hb hts inX4 hown hE.2.1 hP 0 rfl rfl 12 (by decide) (hE.w tw_610) (fun _ h9 => h9) rfl dX4_next_201 ?_
                      refine lv_ldc2 (v := (999 : Int64)) hx hb hown (hE.w tw_884) dX4_next_204 ?_
                      refine W.lcmp hx hb dX4_next_207 ?_
                      obtain ⟨x26, hq28, hf⟩ := bd1_some hf
                      have J27 : ∀ (H : Heap) (locs : List Loc) (ls : Array Slot), va_P E.1 vwCl (wX4 E a m0_19) H → va_D A (wX4 E a m0_19) → va_S A s.heap H locs → lv_has ls 2 [(1, .int r8), (0, .ref (a 0))] → W p l e (rmk 1 21) s m [.ref (a 0)].toArray below meth c H locs 0 0 (MQ below (Qct E A (wX4 E a m0') none) [.ref (a 0)].toArray s 0 0 A) (F0 m 240 ls [.long x26, .ref (a 0)]) := by
                        intro H locs ls hP hD hS hl
                        obtain ⟨m_31, em_31, hf⟩ := jn1_some hf
                        refine va_put (D := E.1) (ci := 4) (v := .long x26) (ty := .long) (C := RX4) (T := TX4) (N := 18) hx hb hts inX4 tyX4 tyX4_ok nmX4 hown hE.2.1 hP hD hS 0 rfl rfl 12 (by decide) (hE.w tw_610) (fun _ h9 => h9) rfl (by decide +kernel) rfl rfl (Nat.le_of_ble_eq_true rfl) dX4_next_240 (fun H locs hP hD hS => ?_)
                        have hP : va_P E.1 vwCl (wX4 E a m_31) H := wst (by rw [em_31]; exact rfl) hP
                        have hD : va_D A (wX4 E a m_31) := wsd (by rw [em_31]; exact rfl) hD
                        refine lv_aload_n hx hb dX4_next_243 rfl (lv_at hl 1 rfl) ?_
                        refine lv_dup hx hb dX4_next_244 rfl ?_
                        refine va_get (D := E.1) (ci := 4) (v := .int (g4_at m_31)) (C := RX4) (T := TX4) (N := 18) hx hb hts inX4 hown hE.2.1 hP 0 rfl rfl 9 (by decide) (hE.w tw_607) (fun _ h9 => h9) rfl dX4_next_245 ?_
                        refine lv_iconst (v := (1 : Int32)) hx hb dX4_next_248 (by decide) ?_
                        refine lv_iadd hx hb dX4_next_249 ?_
                        obtain ⟨m_32, em_32, hf⟩ := jn1_some hf
                        refine va_put (D := E.1) (ci := 4) (v := .int ((g4_at m_31) + (1 : Int32))) (ty := .int) (C := RX4) (T := TX4) (N := 18) hx hb hts inX4 tyX4 tyX4_ok nmX4 hown hE.2.1 hP hD hS 0 rfl rfl 9 (by decide) (hE.w tw_607) (fun _ h9 => h9) rfl (by decide +kernel) rfl rfl (Nat.le_of_ble_eq_true rfl) dX4_next_250 (fun H locs hP hD hS => ?_)
                        have hP : va_P E.1 vwCl (wX4 E a m_32) H := wst (by rw [em_32]; exact rfl) hP
                        have hD : va_D A (wX4 E a m_32) := wsd (by rw [em_32]; exact rfl) hD
                        refine lv_goto (tgt := 185) hx hb dX4_next_253 (by decide) ?_
                        exact ih_19 _ hf _ _ _ hP hD hS (lv_sub hl [0, 1] rfl)
                      refine lv_if_le (tgt := 218) hx hb dX4_next_208 (by decide) (fun c25 => ?_) (fun c25 => ?_)
                      · have c25 := (lg_cmp_le _ _).mp c25
                        have hq28 := ip c25 hq28
                        refine lv_aload_n hx hb dX4_next_218 rfl (lv_at hl 1 rfl) ?_
                        refine va_get (D := E.1) (ci := 4) (v := .long (g4_value m0_19)) (C := RX4) (T := TX4) (N := 18) hx hb hts inX4 hown hE.2.1 hP 0 rfl rfl 12 (by decide) (hE.w tw_610) (fun _ h9 => h9) rfl dX4_next_219 ?_
                        refine lv_ldc2 (v := (10 : Int64)) hx hb hown (hE.w tw_885) dX4_next_222 ?_
                        refine lv_lmul hx hb dX4_next_225 ?_
                        refine lv_aload_n hx hb dX4_next_226 rfl (lv_at hl 1 rfl) ?_
                        refine lv_aload_n hx hb dX4_next_227 rfl (lv_at hl 1 rfl) ?_
                        refine va_get (D := E.1) (ci := 4) (v := .int (g4_at m0_19)) (C := RX4) (T := TX4) (N := 18) hx hb hts inX4 hown hE.2.1 hP 0 rfl rfl 9 (by decide) (hE.w tw_607) (fun _ h9 => h9) rfl dX4_next_228 ?_
                        obtain ⟨r30, hc29, hq28⟩ := bd1_some hq28
                        refine cV (X := List.take 0 (wX4 E a m0_19)) (Y := List.drop 12 (wX4 E a m0_19)) (w := (wX4 E a m0_19)) (w' := (wX4 E a m0_19)) (q0 := 0) lk_X4_163 hx hb hml hown hE hA (c_X4_byteAt l E a m0_19 (g4_at m0_19) r30 hc29) rfl rfl hP hD hS rfl rfl ⟨rfl, rfl, Nat.le_of_ble_eq_true rfl, Nat.le_of_ble_eq_true rfl⟩ hl.1 (As := [.int (g4_at m0_19)]) (rest := [.long ((g4_value m0_19) * (10 : Int64)), .ref (a 0)]) rfl rfl (Nat.le_of_ble_eq_true rfl) ⟨Nat.zero_le _, Nat.zero_le _⟩ dX4_next_231 (fun H locs hP hD hS => ?_)
                        refine W.eq (g2 := F0 m 234 ls [.int r30, .long ((g4_value m0_19) * (10 : Int64)), .ref (a 0)]) rfl ?_
                        refine lv_i2l (v := (r30.toInt64)) hx hb dX4_next_234 rfl ?_
                        refine lv_ladd hx hb dX4_next_235 ?_
                        refine lv_ldc2 (v := (48 : Int64)) hx hb hown (hE.w tw_886) dX4_next_236 ?_
                        refine lv_lsub hx hb dX4_next_239 ?_
                        obtain rfl := so1 hq28
                        exact J27 _ _ _ hP hD hS (lv_sub hl [0, 1] rfl)
                      · have c25 := fun h => c25 ((lg_cmp_le _ _).mpr h)
                        have hq28 := im c25 hq28
                        refine lv_aload_n hx hb dX4_next_211 rfl (lv_at hl 1 rfl) ?_
                        refine va_get (D := E.1) (ci := 4) (v := .long (g4_value m0_19)) (C := RX4) (T := TX4) (N := 18) hx hb hts inX4 hown hE.2.1 hP 0 rfl rfl 12 (by decide) (hE.w tw_610) (fun _ h9 => h9) rfl dX4_next_212 ?_
                        refine lv_goto (tgt := 240) hx hb dX4_next_215 (by decide) ?_
                        obtain rfl := so1 hq28
                        exact J27 _ _ _ hP hD hS (lv_sub hl [0, 1] rfl)
                exact L_19 _ _ hf _ _ _ hP hD hS (lv_sub hl [0, 1] rfl)
            · have hf := im c13 hf
              refine lv_aload_n hx hb dX4_next_98 rfl (lv_at hl 1 rfl) ?_
              refine lv_iconst (v := (1 : Int32)) hx hb dX4_next_99 (by decide) ?_
              obtain ⟨m_33, em_33, hf⟩ := jn1_some hf
              refine va_put (D := E.1) (ci := 4) (v := .int (1 : Int32)) (ty := .int) (C := RX4) (T := TX4) (N := 18) hx hb hts inX4 tyX4 tyX4_ok nmX4 hown hE.2.1 hP hD hS 0 rfl rfl 10 (by decide) (hE.w tw_608) (fun _ h9 => h9) rfl (by decide +kernel) rfl rfl (Nat.le_of_ble_eq_true rfl) dX4_next_100 (fun H locs hP hD hS => ?_)
              have hP : va_P E.1 vwCl (wX4 E a m_33) H := wst (by rw [em_33]; exact rfl) hP
              have hD : va_D A (wX4 E a m_33) := wsd (by rw [em_33]; exact rfl) hD
              have L_34 : ∀ (k_34 : Nat) (m0_34 : MS), lp_X4_next_103  k_34 m0_34 = some m0' → ∀ (H : Heap) (locs : List Loc) (ls : Array Slot), va_P E.1 vwCl (wX4 E a m0_34) H → va_D A (wX4 E a m0_34) → va_S A s.heap H locs → lv_has ls 2 [(1, .int r8), (0, .ref (a 0))] → W p l e (rmk 1 21) s m [.ref (a 0)].toArray below meth c H locs 0 0 (MQ below (Qct E A (wX4 E a m0') none) [.ref (a 0)].toArray s 0 0 A) (F0 m 103 ls []) := by
                intro k_34
                induction k_34 with
                | zero =>
                  intro m0_34 hf
                  rw [lp_X4_next_103] at hf
                  cases hf
                | succ k_34 ih_34 =>
                  intro m0_34 hf H locs ls hP hD hS hl
                  rw [lp_X4_next_103] at hf
                  refine lv_aload_n hx hb dX4_next_103 rfl (lv_at hl 1 rfl) ?_
                  refine lv_aload_n hx hb dX4_next_104 rfl (lv_at hl 1 rfl) ?_
                  refine va_get (D := E.1) (ci := 4) (v := .int (g4_at m0_34)) (C := RX4) (T := TX4) (N := 18) hx hb hts inX4 hown hE.2.1 hP 0 rfl rfl 9 (by decide) (hE.w tw_607) (fun _ h9 => h9) rfl dX4_next_105 ?_
                  obtain ⟨r36, hc35, hf⟩ := bd1_some hf
                  refine cV (X := List.take 0 (wX4 E a m0_34)) (Y := List.drop 12 (wX4 E a m0_34)) (w := (wX4 E a m0_34)) (w' := (wX4 E a m0_34)) (q0 := 0) lk_X4_163 hx hb hml hown hE hA (c_X4_byteAt l E a m0_34 (g4_at m0_34) r36 hc35) rfl rfl hP hD hS rfl rfl ⟨rfl, rfl, Nat.le_of_ble_eq_true rfl, Nat.le_of_ble_eq_true rfl⟩ hl.1 (As := [.int (g4_at m0_34)]) (rest := []) rfl rfl (Nat.le_of_ble_eq_true rfl) ⟨Nat.zero_le _, Nat.zero_le _⟩ dX4_next_108 (fun H locs hP hD hS => ?_)
                  refine W.eq (g2 := F0 m 111 ls [.int r36]) rfl ?_
                  obtain ⟨r38, hc37, hf⟩ := bd1_some hf
                  refine cS (X := List.take 0 (wX4 E a m0_34)) (Y := List.drop 0 (wX4 E a m0_34)) (w := (wX4 E a m0_34)) (w' := (wX4 E a m0_34)) lk_X4_176 hx hb hml hown hE hA (c_X4_letter l E r36 r38 hc37) rfl rfl hP hD hS ⟨rfl, rfl, Nat.le_of_ble_eq_true rfl, Nat.le_of_ble_eq_true rfl⟩ hl.1 (As := [.int r36]) (rest := []) rfl rfl (Nat.le_of_ble_eq_true rfl) ⟨Nat.zero_le _, Nat.zero_le _⟩ dX4_next_111 (fun H locs hP hD hS => ?_)
                  refine W.eq (g2 := F0 m 114 ls [.int r38]) rfl ?_
                  refine lv_if_le (tgt := 261) hx hb dX4_next_114 (by decide) (fun c39 => ?_) (fun c39 => ?_)
                  · have hf := ip c39 hf
                    obtain rfl := so1 hf
                    exact rt_v hx hb hr hlocks hP hD hS dX4_next_261
                  · have hf := im c39 hf
                    refine lv_aload_n hx hb dX4_next_117 rfl (lv_at hl 1 rfl) ?_
                    refine lv_aload_n hx hb dX4_next_118 rfl (lv_at hl 1 rfl) ?_
                    refine va_get (D := E.1) (ci := 4) (v := .long (g4_value m0_34)) (C := RX4) (T := TX4) (N := 18) hx hb hts inX4 hown hE.2.1 hP 0 rfl rfl 12 (by decide) (hE.w tw_610) (fun _ h9 => h9) rfl dX4_next_119 ?_
                    refine lv_ldc2 (v := (100000000000000000 : Int64)) hx hb hown (hE.w tw_879) dX4_next_122 ?_
                    refine W.lcmp hx hb dX4_next_125 ?_
                    obtain ⟨x41, hq43, hf⟩ := bd1_some hf
                    have J42 : ∀ (H : Heap) (locs : List Loc) (ls : Array Slot), va_P E.1 vwCl (wX4 E a m0_34) H → va_D A (wX4 E a m0_34) → va_S A s.heap H locs → lv_has ls 2 [(1, .int r8), (0, .ref (a 0))] → W p l e (rmk 1 21) s m [.ref (a 0)].toArray below meth c H locs 0 0 (MQ below (Qct E A (wX4 E a m0') none) [.ref (a 0)].toArray s 0 0 A) (F0 m 157 ls [.long x41, .ref (a 0)]) := by
                      intro H locs ls hP hD hS hl
                      obtain ⟨m_48, em_48, hf⟩ := jn1_some hf
                      refine va_put (D := E.1) (ci := 4) (v := .long x41) (ty := .long) (C := RX4) (T := TX4) (N := 18) hx hb hts inX4 tyX4 tyX4_ok nmX4 hown hE.2.1 hP hD hS 0 rfl rfl 12 (by decide) (hE.w tw_610) (fun _ h9 => h9) rfl (by decide +kernel) rfl rfl (Nat.le_of_ble_eq_true rfl) dX4_next_157 (fun H locs hP hD hS => ?_)
                      have hP : va_P E.1 vwCl (wX4 E a m_48) H := wst (by rw [em_48]; exact rfl) hP
                      have hD : va_D A (wX4 E a m_48) := wsd (by rw [em_48]; exact rfl) hD
                      refine lv_aload_n hx hb dX4_next_160 rfl (lv_at hl 1 rfl) ?_
                      refine lv_dup hx hb dX4_next_161 rfl ?_
                      refine va_get (D := E.1) (ci := 4) (v := .int (g4_at m_48)) (C := RX4) (T := TX4) (N := 18) hx hb hts inX4 hown hE.2.1 hP 0 rfl rfl 9 (by decide) (hE.w tw_607) (fun _ h9 => h9) rfl dX4_next_162 ?_
                      refine lv_iconst (v := (1 : Int32)) hx hb dX4_next_165 (by decide) ?_
                      refine lv_iadd hx hb dX4_next_166 ?_
                      obtain ⟨m_49, em_49, hf⟩ := jn1_some hf
                      refine va_put (D := E.1) (ci := 4) (v := .int ((g4_at m_48) + (1 : Int32))) (ty := .int) (C := RX4) (T := TX4) (N := 18) hx hb hts inX4 tyX4 tyX4_ok nmX4 hown hE.2.1 hP hD hS 0 rfl rfl 9 (by decide) (hE.w tw_607) (fun _ h9 => h9) rfl (by decide +kernel) rfl rfl (Nat.le_of_ble_eq_true rfl) dX4_next_167 (fun H locs hP hD hS => ?_)
                      have hP : va_P E.1 vwCl (wX4 E a m_49) H := wst (by rw [em_49]; exact rfl) hP
                      have hD : va_D A (wX4 E a m_49) := wsd (by rw [em_49]; exact rfl) hD
                      refine lv_goto (tgt := 103) hx hb dX4_next_170 (by decide) ?_
                      exact ih_34 _ hf _ _ _ hP hD hS (lv_sub hl [0, 1] rfl)
                    refine lv_if_le (tgt := 136) hx hb dX4_next_126 (by decide) (fun c40 => ?_) (fun c40 => ?_)
                    · have c40 := (lg_cmp_le _ _).mp c40
                      have hq43 := ip c40 hq43
                      refine lv_aload_n hx hb dX4_next_136 rfl (lv_at hl 1 rfl) ?_
                      refine va_get (D := E.1) (ci := 4) (v := .long (g4_value m0_34)) (C := RX4) (T := TX4) (N := 18) hx hb hts inX4 hown hE.2.1 hP 0 rfl rfl 12 (by decide) (hE.w tw_610) (fun _ h9 => h9) rfl dX4_next_137 ?_
                      refine lv_ldc2 (v := (27 : Int64)) hx hb hown (hE.w tw_880) dX4_next_140 ?_
                      refine lv_lmul hx hb dX4_next_143 ?_
                      refine lv_aload_n hx hb dX4_next_144 rfl (lv_at hl 1 rfl) ?_
                      refine lv_aload_n hx hb dX4_next_145 rfl (lv_at hl 1 rfl) ?_
                      refine va_get (D := E.1) (ci := 4) (v := .int (g4_at m0_34)) (C := RX4) (T := TX4) (N := 18) hx hb hts inX4 hown hE.2.1 hP 0 rfl rfl 9 (by decide) (hE.w tw_607) (fun _ h9 => h9) rfl dX4_next_146 ?_
                      obtain ⟨r45, hc44, hq43⟩ := bd1_some hq43
                      refine cV (X := List.take 0 (wX4 E a m0_34)) (Y := List.drop 12 (wX4 E a m0_34)) (w := (wX4 E a m0_34)) (w' := (wX4 E a m0_34)) (q0 := 0) lk_X4_163 hx hb hml hown hE hA (c_X4_byteAt l E a m0_34 (g4_at m0_34) r45 hc44) rfl rfl hP hD hS rfl rfl ⟨rfl, rfl, Nat.le_of_ble_eq_true rfl, Nat.le_of_ble_eq_true rfl⟩ hl.1 (As := [.int (g4_at m0_34)]) (rest := [.long ((g4_value m0_34) * (27 : Int64)), .ref (a 0)]) rfl rfl (Nat.le_of_ble_eq_true rfl) ⟨Nat.zero_le _, Nat.zero_le _⟩ dX4_next_149 (fun H locs hP hD hS => ?_)
                      refine W.eq (g2 := F0 m 152 ls [.int r45, .long ((g4_value m0_34) * (27 : Int64)), .ref (a 0)]) rfl ?_
                      obtain ⟨r47, hc46, hq43⟩ := bd1_some hq43
                      refine cS (X := List.take 0 (wX4 E a m0_34)) (Y := List.drop 0 (wX4 E a m0_34)) (w := (wX4 E a m0_34)) (w' := (wX4 E a m0_34)) lk_X4_176 hx hb hml hown hE hA (c_X4_letter l E r45 r47 hc46) rfl rfl hP hD hS ⟨rfl, rfl, Nat.le_of_ble_eq_true rfl, Nat.le_of_ble_eq_true rfl⟩ hl.1 (As := [.int r45]) (rest := [.long ((g4_value m0_34) * (27 : Int64)), .ref (a 0)]) rfl rfl (Nat.le_of_ble_eq_true rfl) ⟨Nat.zero_le _, Nat.zero_le _⟩ dX4_next_152 (fun H locs hP hD hS => ?_)
                      refine W.eq (g2 := F0 m 155 ls [.int r47, .long ((g4_value m0_34) * (27 : Int64)), .ref (a 0)]) rfl ?_
                      refine lv_i2l (v := (r47.toInt64)) hx hb dX4_next_155 rfl ?_
                      refine lv_ladd hx hb dX4_next_156 ?_
                      obtain rfl := so1 hq43
                      exact J42 _ _ _ hP hD hS (lv_sub hl [0, 1] rfl)
                    · have c40 := fun h => c40 ((lg_cmp_le _ _).mpr h)
                      have hq43 := im c40 hq43
                      refine lv_aload_n hx hb dX4_next_129 rfl (lv_at hl 1 rfl) ?_
                      refine va_get (D := E.1) (ci := 4) (v := .long (g4_value m0_34)) (C := RX4) (T := TX4) (N := 18) hx hb hts inX4 hown hE.2.1 hP 0 rfl rfl 12 (by decide) (hE.w tw_610) (fun _ h9 => h9) rfl dX4_next_130 ?_
                      refine lv_goto (tgt := 157) hx hb dX4_next_133 (by decide) ?_
                      obtain rfl := so1 hq43
                      exact J42 _ _ _ hP hD hS (lv_sub hl [0, 1] rfl)
              exact L_34 _ _ hf _ _ _ hP hD hS (lv_sub hl [0, 1] rfl)
          · have hf := ip c10 hf
            refine lv_aload_n hx hb dX4_next_73 rfl (lv_at hl 1 rfl) ?_
            refine lv_iconst (v := (3 : Int32)) hx hb dX4_next_74 (by decide) ?_
            obtain ⟨m_50, em_50, hf⟩ := jn1_some hf
            refine va_put (D := E.1) (ci := 4) (v := .int (3 : Int32)) (ty := .int) (C := RX4) (T := TX4) (N := 18) hx hb hts inX4 tyX4 tyX4_ok nmX4 hown hE.2.1 hP hD hS 0 rfl rfl 10 (by decide) (hE.w tw_608) (fun _ h9 => h9) rfl (by decide +kernel) rfl rfl (Nat.le_of_ble_eq_true rfl) dX4_next_75 (fun H locs hP hD hS => ?_)
            have hP : va_P E.1 vwCl (wX4 E a m_50) H := wst (by rw [em_50]; exact rfl) hP
            have hD : va_D A (wX4 E a m_50) := wsd (by rw [em_50]; exact rfl) hD
            refine lv_aload_n hx hb dX4_next_78 rfl (lv_at hl 1 rfl) ?_
            refine lv_dup hx hb dX4_next_79 rfl ?_
            refine va_get (D := E.1) (ci := 4) (v := .int (g4_at m_50)) (C := RX4) (T := TX4) (N := 18) hx hb hts inX4 hown hE.2.1 hP 0 rfl rfl 9 (by decide) (hE.w tw_607) (fun _ h9 => h9) rfl dX4_next_80 ?_
            refine lv_iconst (v := (1 : Int32)) hx hb dX4_next_83 (by decide) ?_
            refine lv_iadd hx hb dX4_next_84 ?_
            obtain ⟨m_51, em_51, hf⟩ := jn1_some hf
            refine va_put (D := E.1) (ci := 4) (v := .int ((g4_at m_50) + (1 : Int32))) (ty := .int) (C := RX4) (T := TX4) (N := 18) hx hb hts inX4 tyX4 tyX4_ok nmX4 hown hE.2.1 hP hD hS 0 rfl rfl 9 (by decide) (hE.w tw_607) (fun _ h9 => h9) rfl (by decide +kernel) rfl rfl (Nat.le_of_ble_eq_true rfl) dX4_next_85 (fun H locs hP hD hS => ?_)
            have hP : va_P E.1 vwCl (wX4 E a m_51) H := wst (by rw [em_51]; exact rfl) hP
            have hD : va_D A (wX4 E a m_51) := wsd (by rw [em_51]; exact rfl) hD
            refine lv_goto (tgt := 261) hx hb dX4_next_88 (by decide) ?_
            obtain rfl := so1 hf
            exact rt_v hx hb hr hlocks hP hD hS dX4_next_261
        · have hf := ip c9 hf
          refine lv_aload_n hx hb dX4_next_59 rfl (lv_at hl 1 rfl) ?_
          refine lv_iconst (v := (0 : Int32)) hx hb dX4_next_60 (by decide) ?_
          obtain ⟨m_52, em_52, hf⟩ := jn1_some hf
          refine va_put (D := E.1) (ci := 4) (v := .int (0 : Int32)) (ty := .int) (C := RX4) (T := TX4) (N := 18) hx hb hts inX4 tyX4 tyX4_ok nmX4 hown hE.2.1 hP hD hS 0 rfl rfl 10 (by decide) (hE.w tw_608) (fun _ h9 => h9) rfl (by decide +kernel) rfl rfl (Nat.le_of_ble_eq_true rfl) dX4_next_61 (fun H locs hP hD hS => ?_)
          have hP : va_P E.1 vwCl (wX4 E a m_52) H := wst (by rw [em_52]; exact rfl) hP
          have hD : va_D A (wX4 E a m_52) := wsd (by rw [em_52]; exact rfl) hD
          refine lv_goto (tgt := 261) hx hb dX4_next_64 (by decide) ?_
          obtain rfl := so1 hf
          exact rt_v hx hb hr hlocks hP hD hS dX4_next_261
      · have hf := ip c4 hf
        refine lv_aload_n hx hb dX4_next_13 rfl (lv_at hl 0 rfl) ?_
        refine lv_dup hx hb dX4_next_14 rfl ?_
        refine va_get (D := E.1) (ci := 4) (v := .int (g4_at m0_1)) (C := RX4) (T := TX4) (N := 18) hx hb hts inX4 hown hE.2.1 hP 0 rfl rfl 9 (by decide) (hE.w tw_607) (fun _ h9 => h9) rfl dX4_next_15 ?_
        refine lv_iconst (v := (1 : Int32)) hx hb dX4_next_18 (by decide) ?_
        refine lv_iadd hx hb dX4_next_19 ?_
        obtain ⟨m_53, em_53, hf⟩ := jn1_some hf
        refine va_put (D := E.1) (ci := 4) (v := .int ((g4_at m0_1) + (1 : Int32))) (ty := .int) (C := RX4) (T := TX4) (N := 18) hx hb hts inX4 tyX4 tyX4_ok nmX4 hown hE.2.1 hP hD hS 0 rfl rfl 9 (by decide) (hE.w tw_607) (fun _ h9 => h9) rfl (by decide +kernel) rfl rfl (Nat.le_of_ble_eq_true rfl) dX4_next_20 (fun H locs hP hD hS => ?_)
        have hP : va_P E.1 vwCl (wX4 E a m_53) H := wst (by rw [em_53]; exact rfl) hP
        have hD : va_D A (wX4 E a m_53) := wsd (by rw [em_53]; exact rfl) hD
        refine lv_goto (tgt := 0) hx hb dX4_next_23 (by decide) ?_
        exact ih_1 _ hf _ _ _ hP hD hS (lv_sub hl [0] rfl)
  exact L_1 _ _ hf _ _ _ hP hD hS (lv_sub hl [0] rfl)
