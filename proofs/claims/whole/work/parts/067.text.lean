def f_X2_takePerson (h : HS) (t : TS) : Option (Bool × HS × TS) := bd1 (f_X2_kindNamed t) (fun r2 => if r2 < 0 then some (false, h, t) else if (g0_people h) < (8 : Int32) then bd2 (f_X0_seat h r2 (60 : Int32)) (fun r6 h7 => bd1 (f_X2_take t) (fun t9 => bd1 (f_X2_isWord t9 14) (fun r11 => if (bI r11) = 0 then some (true, h7, t9) else bd1 (f_X2_take t9) (fun t14 => bd1 (f_X2_isNumberTo t14 (99 : Int32)) (fun r16 => if (bI r16) = 0 then some (false, h7, t14) else gd r6 8 (jn1 (s0_freshes h7 (upd (g0_freshes h7) r6.toNatClampNeg (g2_number t14))) (fun h_19 => bd1 (f_X2_take t14) (fun t21 => some (true, h_19, t21))))))))) else some (false, h, t))
set_option maxHeartbeats 4000000 in
set_option maxRecDepth 100000 in
theorem c_X2_takePerson (l : Launch) (E : EV) (b : Nat → Nat) (a : Nat → Nat) (h : HS) (t : TS)  (r : Bool) (h' : HS) (t' : TS) (hf : f_X2_takePerson h t = some (r, h', t')) : Ct l E yX2_takePerson cX2_takePerson 4 ((Option.some FieldType.boolean)) (rmk 6 128) [.ref (a 0), .ref (b 0)] (wX0 E b h ++ wX2 E a t) (wX0 E b h' ++ wX2 E a t') (some (.int (bI r))) := by
  refine Ct.of (by decide) (Nat.le_of_ble_eq_true rfl) ?_
  intro p e s m below meth c A ls hC hP hD hl
  obtain ⟨hx, hb, hr, hml, hown, hlocks, hE, hA⟩ := hC
  have hts : ∀ w ∈ tbl, w.before [.ref (a 0), .ref (b 0)].toArray s = true := fun w hw => hE.w hw
  have hS : va_S A s.heap s.heap [] := va_S.rf
  have hl : lv_has ls 4 [(0, .ref (a 0)), (1, .ref (b 0))] := hl
  unfold f_X2_takePerson at hf
  refine lv_aload_n hx hb dX2_takePerson_0 rfl (lv_at hl 0 rfl) ?_
  obtain ⟨r2, hc1, hf⟩ := bd1_some hf
  refine cV (X := List.take 8 (wX0 E b h ++ wX2 E a t)) (Y := List.drop 10 (wX0 E b h ++ wX2 E a t)) (w := (wX0 E b h ++ wX2 E a t)) (w' := (wX0 E b h ++ wX2 E a t)) (q0 := 0) lk_X2_60 hx hb hml hown hE hA (c_X2_kindNamed l E a t r2 hc1) rfl rfl hP hD hS rfl rfl ⟨rfl, rfl, Nat.le_of_ble_eq_true rfl, Nat.le_of_ble_eq_true rfl⟩ hl.1 (As := []) (rest := []) rfl rfl (Nat.le_of_ble_eq_true rfl) ⟨Nat.zero_le _, Nat.zero_le _⟩ dX2_takePerson_1 (fun H locs hP hD hS => ?_)
  refine W.eq (g2 := F0 m 4 ls [.int r2]) rfl ?_
  refine lv_istore_n (lv' := [(2, .int r2), (0, .ref (a 0)), (1, .ref (b 0))]) hx hb dX2_takePerson_4 rfl hl (by decide) rfl (fun ls hl => ?_)
  refine lv_iload_n hx hb dX2_takePerson_5 rfl (lv_at hl 0 rfl) ?_
  refine lv_if_lt (tgt := 18) hx hb dX2_takePerson_6 (by decide) (fun c3 => ?_) (fun c3 => ?_)
  · have hf := ip c3 hf
    refine lv_iconst (v := (0 : Int32)) hx hb dX2_takePerson_18 (by decide) ?_
    obtain ⟨rfl, rfl, rfl⟩ := so3 hf
    exact rt_z (bI_nar _) hx hb hr hlocks hP hD hS dX2_takePerson_19
  · have hf := im c3 hf
    refine lv_aload_n hx hb dX2_takePerson_9 rfl (lv_at hl 2 rfl) ?_
    refine va_getN (D := E.1) (ci := 0) (v := .int (g0_people h)) (C := RX0) (T := TX0) (N := 10) hx hb hts inX0 hown hE.2.1 hP 0 rfl rfl 2 (by decide) (hE.w tw_32) (fun _ h9 => h9) rfl dX2_takePerson_10 ?_
    refine lv_bipush (v := (8 : Int32)) hx hb dX2_takePerson_13 (by decide) ?_
    refine lv_icmp_lt (tgt := 20) hx hb dX2_takePerson_15 (by decide) (fun c4 => ?_) (fun c4 => ?_)
    · have hf := ip c4 hf
      refine lv_aload_n hx hb dX2_takePerson_20 rfl (lv_at hl 2 rfl) ?_
      refine lv_iload_n hx hb dX2_takePerson_21 rfl (lv_at hl 0 rfl) ?_
      refine lv_bipush (v := (60 : Int32)) hx hb dX2_takePerson_22 (by decide) ?_
      obtain ⟨r6, h7, hc5, hf⟩ := bd2_some hf
      refine cVN (X := List.take 0 (wX0 E b h ++ wX2 E a t)) (Y := List.drop 8 (wX0 E b h ++ wX2 E a t)) (w := (wX0 E b h ++ wX2 E a t)) (w' := (wX0 E b h7 ++ wX2 E a t)) (q0 := 0) lk_X2_69 hx hb hml hown hE hA (c_X0_seat l E b h r2 (60 : Int32) r6 h7 hc5) rfl rfl hP hD hS rfl rfl ⟨rfl, rfl, Nat.le_of_ble_eq_true rfl, Nat.le_of_ble_eq_true rfl⟩ hl.1 (As := [.int r2, .int (60 : Int32)]) (rest := []) rfl rfl (Nat.le_of_ble_eq_true rfl) ⟨Nat.zero_le _, Nat.zero_le _⟩ dX2_takePerson_24 (fun H locs hP hD hS => ?_)
      refine W.eq (g2 := F0 m 27 ls [.int r6]) rfl ?_
      refine lv_istore_n (lv' := [(3, .int r6), (2, .int r2), (0, .ref (a 0)), (1, .ref (b 0))]) hx hb dX2_takePerson_27 rfl hl (by decide) rfl (fun ls hl => ?_)
      refine lv_aload_n hx hb dX2_takePerson_28 rfl (lv_at hl 2 rfl) ?_
      obtain ⟨t9, hc8, hf⟩ := bd1_some hf
      refine cV (X := List.take 8 (wX0 E b h7 ++ wX2 E a t)) (Y := List.drop 10 (wX0 E b h7 ++ wX2 E a t)) (w := (wX0 E b h7 ++ wX2 E a t)) (w' := (wX0 E b h7 ++ wX2 E a t9)) (q0 := 0) lk_X2_31 hx hb hml hown hE hA (c_X2_take l E a t t9 hc8) rfl rfl hP hD hS rfl rfl ⟨rfl, rfl, Nat.le_of_ble_eq_true rfl, Nat.le_of_ble_eq_true rfl⟩ hl.1 (As := []) (rest := []) rfl rfl (Nat.le_of_ble_eq_true rfl) ⟨Nat.zero_le _, Nat.zero_le _⟩ dX2_takePerson_29 (fun H locs hP hD hS => ?_)
      refine W.eq (g2 := F0 m 32 ls []) rfl ?_
      refine lv_aload_n hx hb dX2_takePerson_32 rfl (lv_at hl 2 rfl) ?_
      refine va_ldcS hx hb hown (hE.2.2.2.2.2.2.2 14 (by decide)) dX2_takePerson_33 ?_
      obtain ⟨r11, hc10, hf⟩ := bd1_some hf
      refine cV (X := List.take 8 (wX0 E b h7 ++ wX2 E a t9)) (Y := List.drop 10 (wX0 E b h7 ++ wX2 E a t9)) (w := (wX0 E b h7 ++ wX2 E a t9)) (w' := (wX0 E b h7 ++ wX2 E a t9)) (q0 := 0) lk_X2_40 hx hb hml hown hE hA (c_X2_isWord l E a t9 14 (by decide) r11 hc10) rfl rfl hP hD hS rfl rfl ⟨rfl, rfl, Nat.le_of_ble_eq_true rfl, Nat.le_of_ble_eq_true rfl⟩ hl.1 (As := [.ref (E.2.2.2.1 14)]) (rest := []) rfl rfl (Nat.le_of_ble_eq_true rfl) ⟨Nat.zero_le _, Nat.zero_le _⟩ dX2_takePerson_35 (fun H locs hP hD hS => ?_)
      refine W.eq (g2 := F0 m 38 ls [.int (bI r11)]) rfl ?_
      refine lv_if_eq (tgt := 70) hx hb dX2_takePerson_38 (by decide) (fun c12 => ?_) (fun c12 => ?_)
      · have hf := ip c12 hf
        refine lv_iconst (v := (1 : Int32)) hx hb dX2_takePerson_70 (by decide) ?_
        obtain ⟨rfl, rfl, rfl⟩ := so3 hf
        exact rt_z (bI_nar _) hx hb hr hlocks hP hD hS dX2_takePerson_71
      · have hf := im c12 hf
        refine lv_aload_n hx hb dX2_takePerson_41 rfl (lv_at hl 2 rfl) ?_
        obtain ⟨t14, hc13, hf⟩ := bd1_some hf
        refine cV (X := List.take 8 (wX0 E b h7 ++ wX2 E a t9)) (Y := List.drop 10 (wX0 E b h7 ++ wX2 E a t9)) (w := (wX0 E b h7 ++ wX2 E a t9)) (w' := (wX0 E b h7 ++ wX2 E a t14)) (q0 := 0) lk_X2_31 hx hb hml hown hE hA (c_X2_take l E a t9 t14 hc13) rfl rfl hP hD hS rfl rfl ⟨rfl, rfl, Nat.le_of_ble_eq_true rfl, Nat.le_of_ble_eq_true rfl⟩ hl.1 (As := []) (rest := []) rfl rfl (Nat.le_of_ble_eq_true rfl) ⟨Nat.zero_le _, Nat.zero_le _⟩ dX2_takePerson_42 (fun H locs hP hD hS => ?_)
        refine W.eq (g2 := F0 m 45 ls []) rfl ?_
        refine lv_aload_n hx hb dX2_takePerson_45 rfl (lv_at hl 2 rfl) ?_
        refine lv_bipush (v := (99 : Int32)) hx hb dX2_takePerson_46 (by decide) ?_
        obtain ⟨r16, hc15, hf⟩ := bd1_some hf
        refine cV (X := List.take 8 (wX0 E b h7 ++ wX2 E a t14)) (Y := List.drop 10 (wX0 E b h7 ++ wX2 E a t14)) (w := (wX0 E b h7 ++ wX2 E a t14)) (w' := (wX0 E b h7 ++ wX2 E a t14)) (q0 := 0) lk_X2_75 hx hb hml hown hE hA (c_X2_isNumberTo l E a t14 (99 : Int32) r16 hc15) rfl rfl hP hD hS rfl rfl ⟨rfl, rfl, Nat.le_of_ble_eq_true rfl, Nat.le_of_ble_eq_true rfl⟩ hl.1 (As := [.int (99 : Int32)]) (rest := []) rfl rfl (Nat.le_of_ble_eq_true rfl) ⟨Nat.zero_le _, Nat.zero_le _⟩ dX2_takePerson_48 (fun H locs hP hD hS => ?_)
        refine W.eq (g2 := F0 m 51 ls [.int (bI r16)]) rfl ?_
        refine lv_if_ne (tgt := 56) hx hb dX2_takePerson_51 (by decide) (fun c17 => ?_) (fun c17 => ?_)
        · have hf := im c17 hf
          refine lv_aload_n hx hb dX2_takePerson_56 rfl (lv_at hl 3 rfl) ?_
          refine va_getN (D := E.1) (ci := 0) (v := .ref (b 7)) (C := RX0) (T := TX0) (N := 10) hx hb hts inX0 hown hE.2.1 hP 0 rfl rfl 6 (by decide) (hE.w tw_42) (fun _ h9 => h9) rfl dX2_takePerson_57 ?_
          refine lv_iload_n hx hb dX2_takePerson_60 rfl (lv_at hl 0 rfl) ?_
          refine lv_aload_n hx hb dX2_takePerson_61 rfl (lv_at hl 2 rfl) ?_
          refine va_get (D := E.1) (ci := 2) (v := .int (g2_number t14)) (C := RX2) (T := TX2) (N := 6) hx hb hts inX2 hown hE.2.1 hP 8 rfl rfl 5 (by decide) (hE.w tw_83) (fun _ h9 => h9) rfl dX2_takePerson_62 ?_
          obtain ⟨hg18, hf⟩ := gd_some hf
          obtain ⟨h_19, eh_19, hf⟩ := jn1_some hf
          refine va_iast hx hb hE.2.1 hP hD hS 4 0 rfl rfl hg18 dX2_takePerson_65 (fun H locs hP hD hS => ?_)
          have hP : va_P E.1 vwCl (wX0 E b h_19 ++ wX2 E a t14) H := wst (by rw [eh_19]; exact rfl) hP
          have hD : va_D A (wX0 E b h_19 ++ wX2 E a t14) := wsd (by rw [eh_19]; exact rfl) hD
          refine lv_aload_n hx hb dX2_takePerson_66 rfl (lv_at hl 2 rfl) ?_
          obtain ⟨t21, hc20, hf⟩ := bd1_some hf
          refine cV (X := List.take 8 (wX0 E b h_19 ++ wX2 E a t14)) (Y := List.drop 10 (wX0 E b h_19 ++ wX2 E a t14)) (w := (wX0 E b h_19 ++ wX2 E a t14)) (w' := (wX0 E b h_19 ++ wX2 E a t21)) (q0 := 0) lk_X2_31 hx hb hml hown hE hA (c_X2_take l E a t14 t21 hc20) rfl rfl hP hD hS rfl rfl ⟨rfl, rfl, Nat.le_of_ble_eq_true rfl, Nat.le_of_ble_eq_true rfl⟩ hl.1 (As := []) (rest := []) rfl rfl (Nat.le_of_ble_eq_true rfl) ⟨Nat.zero_le _, Nat.zero_le _⟩ dX2_takePerson_67 (fun H locs hP hD hS => ?_)
          refine W.eq (g2 := F0 m 70 ls []) rfl ?_
          refine lv_iconst (v := (1 : Int32)) hx hb dX2_takePerson_70 (by decide) ?_
          obtain ⟨rfl, rfl, rfl⟩ := so3 hf
          exact rt_z (bI_nar _) hx hb hr hlocks hP hD hS dX2_takePerson_71
        · have hf := ip c17 hf
          refine lv_iconst (v := (0 : Int32)) hx hb dX2_takePerson_54 (by decide) ?_
          obtain ⟨rfl, rfl, rfl⟩ := so3 hf
          exact rt_z (bI_nar _) hx hb hr hlocks hP hD hS dX2_takePerson_55
    · have hf := im c4 hf
      refine lv_iconst (v := (0 : Int32)) hx hb dX2_takePerson_18 (by decide) ?_
      obtain ⟨rfl, rfl, rfl⟩ := so3 hf
      exact rt_z (bI_nar _) hx hb hr hlocks hP hD hS dX2_takePerson_19
def f_X2_takeCue (h : HS) (t : TS) : Option (Bool × HS × TS) := bd1 (f_X2_take t) (fun t2 => bd1 (f_X2_isNumberTo t2 (15 : Int32)) (fun r4 => if (bI r4) = 0 then some (false, h, t2) else bd1 (f_X2_take t2) (fun t7 => bd1 (f_X2_cueNamed t7) (fun r9 => if 0 ≤ r9 then gd (g2_number t2) 16 (jn1 (s0_cues h (upd (g0_cues h) (g2_number t2).toNatClampNeg r9)) (fun h_12 => bd1 (f_X2_take t7) (fun t14 => some (true, h_12, t14)))) else some (false, h, t7)))))
set_option maxHeartbeats 4000000 in
set_option maxRecDepth 100000 in
theorem c_X2_takeCue (l : Launch) (E : EV) (b : Nat → Nat) (a : Nat → Nat) (h : HS) (t : TS)  (r : Bool) (h' : HS) (t' : TS) (hf : f_X2_takeCue h t = some (r, h', t')) : Ct l E yX2_takeCue cX2_takeCue 4 ((Option.some FieldType.boolean)) (rmk 6 128) [.ref (a 0), .ref (b 0)] (wX0 E b h ++ wX2 E a t) (wX0 E b h' ++ wX2 E a t') (some (.int (bI r))) := by
  refine Ct.of (by decide) (Nat.le_of_ble_eq_true rfl) ?_
  intro p e s m below meth c A ls hC hP hD hl
  obtain ⟨hx, hb, hr, hml, hown, hlocks, hE, hA⟩ := hC
  have hts : ∀ w ∈ tbl, w.before [.ref (a 0), .ref (b 0)].toArray s = true := fun w hw => hE.w hw
  have hS : va_S A s.heap s.heap [] := va_S.rf
  have hl : lv_has ls 4 [(0, .ref (a 0)), (1, .ref (b 0))] := hl
  unfold f_X2_takeCue at hf
  refine lv_aload_n hx hb dX2_takeCue_0 rfl (lv_at hl 0 rfl) ?_
  obtain ⟨t2, hc1, hf⟩ := bd1_some hf
  refine cV (X := List.take 8 (wX0 E b h ++ wX2 E a t)) (Y := List.drop 10 (wX0 E b h ++ wX2 E a t)) (w := (wX0 E b h ++ wX2 E a t)) (w' := (wX0 E b h ++ wX2 E a t2)) (q0 := 0) lk_X2_31 hx hb hml hown hE hA (c_X2_take l E a t t2 hc1) rfl rfl hP hD hS rfl rfl ⟨rfl, rfl, Nat.le_of_ble_eq_true rfl, Nat.le_of_ble_eq_true rfl⟩ hl.1 (As := []) (rest := []) rfl rfl (Nat.le_of_ble_eq_true rfl) ⟨Nat.zero_le _, Nat.zero_le _⟩ dX2_takeCue_1 (fun H locs hP hD hS => ?_)
  refine W.eq (g2 := F0 m 4 ls []) rfl ?_
  refine lv_aload_n hx hb dX2_takeCue_4 rfl (lv_at hl 0 rfl) ?_
  refine lv_bipush (v := (15 : Int32)) hx hb dX2_takeCue_5 (by decide) ?_
  obtain ⟨r4, hc3, hf⟩ := bd1_some hf
  refine cV (X := List.take 8 (wX0 E b h ++ wX2 E a t2)) (Y := List.drop 10 (wX0 E b h ++ wX2 E a t2)) (w := (wX0 E b h ++ wX2 E a t2)) (w' := (wX0 E b h ++ wX2 E a t2)) (q0 := 0) lk_X2_75 hx hb hml hown hE hA (c_X2_isNumberTo l E a t2 (15 : Int32) r4 hc3) rfl rfl hP hD hS rfl rfl ⟨rfl, rfl, Nat.le_of_ble_eq_true rfl, Nat.le_of_ble_eq_true rfl⟩ hl.1 (As := [.int (15 : Int32)]) (rest := []) rfl rfl (Nat.le_of_ble_eq_true rfl) ⟨Nat.zero_le _, Nat.zero_le _⟩ dX2_takeCue_7 (fun H locs hP hD hS => ?_)
  refine W.eq (g2 := F0 m 10 ls [.int (bI r4)]) rfl ?_
  refine lv_if_ne (tgt := 15) hx hb dX2_takeCue_10 (by decide) (fun c5 => ?_) (fun c5 => ?_)
  · have hf := im c5 hf
    refine lv_aload_n hx hb dX2_takeCue_15 rfl (lv_at hl 0 rfl) ?_
    refine va_get (D := E.1) (ci := 2) (v := .int (g2_number t2)) (C := RX2) (T := TX2) (N := 6) hx hb hts inX2 hown hE.2.1 hP 8 rfl rfl 5 (by decide) (hE.w tw_83) (fun _ h9 => h9) rfl dX2_takeCue_16 ?_
    refine lv_istore_n (lv' := [(2, .int (g2_number t2)), (0, .ref (a 0)), (1, .ref (b 0))]) hx hb dX2_takeCue_19 rfl hl (by decide) rfl (fun ls hl => ?_)
    refine lv_aload_n hx hb dX2_takeCue_20 rfl (lv_at hl 1 rfl) ?_
    obtain ⟨t7, hc6, hf⟩ := bd1_some hf
    refine cV (X := List.take 8 (wX0 E b h ++ wX2 E a t2)) (Y := List.drop 10 (wX0 E b h ++ wX2 E a t2)) (w := (wX0 E b h ++ wX2 E a t2)) (w' := (wX0 E b h ++ wX2 E a t7)) (q0 := 0) lk_X2_31 hx hb hml hown hE hA (c_X2_take l E a t2 t7 hc6) rfl rfl hP hD hS rfl rfl ⟨rfl, rfl, Nat.le_of_ble_eq_true rfl, Nat.le_of_ble_eq_true rfl⟩ hl.1 (As := []) (rest := []) rfl rfl (Nat.le_of_ble_eq_true rfl) ⟨Nat.zero_le _, Nat.zero_le _⟩ dX2_takeCue_21 (fun H locs hP hD hS => ?_)
    refine W.eq (g2 := F0 m 24 ls []) rfl ?_
    refine lv_aload_n hx hb dX2_takeCue_24 rfl (lv_at hl 1 rfl) ?_
    obtain ⟨r9, hc8, hf⟩ := bd1_some hf
    refine cV (X := List.take 8 (wX0 E b h ++ wX2 E a t7)) (Y := List.drop 10 (wX0 E b h ++ wX2 E a t7)) (w := (wX0 E b h ++ wX2 E a t7)) (w' := (wX0 E b h ++ wX2 E a t7)) (q0 := 0) lk_X2_83 hx hb hml hown hE hA (c_X2_cueNamed l E a t7 r9 hc8) rfl rfl hP hD hS rfl rfl ⟨rfl, rfl, Nat.le_of_ble_eq_true rfl, Nat.le_of_ble_eq_true rfl⟩ hl.1 (As := []) (rest := []) rfl rfl (Nat.le_of_ble_eq_true rfl) ⟨Nat.zero_le _, Nat.zero_le _⟩ dX2_takeCue_25 (fun H locs hP hD hS => ?_)
    refine W.eq (g2 := F0 m 28 ls [.int r9]) rfl ?_
    refine lv_istore_n (lv' := [(3, .int r9), (2, .int (g2_number t2)), (0, .ref (a 0)), (1, .ref (b 0))]) hx hb dX2_takeCue_28 rfl hl (by decide) rfl (fun ls hl => ?_)
    refine lv_iload_n hx hb dX2_takeCue_29 rfl (lv_at hl 0 rfl) ?_
    refine lv_if_ge (tgt := 35) hx hb dX2_takeCue_30 (by decide) (fun c10 => ?_) (fun c10 => ?_)
    · have hf := ip c10 hf
      refine lv_aload_n hx hb dX2_takeCue_35 rfl (lv_at hl 3 rfl) ?_
      refine va_getN (D := E.1) (ci := 0) (v := .ref (b 4)) (C := RX0) (T := TX0) (N := 10) hx hb hts inX0 hown hE.2.1 hP 0 rfl rfl 3 (by decide) (hE.w tw_35) (fun _ h9 => h9) rfl dX2_takeCue_36 ?_
      refine lv_iload_n hx hb dX2_takeCue_39 rfl (lv_at hl 1 rfl) ?_
      refine lv_iload_n hx hb dX2_takeCue_40 rfl (lv_at hl 0 rfl) ?_
      obtain ⟨hg11, hf⟩ := gd_some hf
      obtain ⟨h_12, eh_12, hf⟩ := jn1_some hf
      refine va_iast hx hb hE.2.1 hP hD hS 1 0 rfl rfl hg11 dX2_takeCue_41 (fun H locs hP hD hS => ?_)
      have hP : va_P E.1 vwCl (wX0 E b h_12 ++ wX2 E a t7) H := wst (by rw [eh_12]; exact rfl) hP
      have hD : va_D A (wX0 E b h_12 ++ wX2 E a t7) := wsd (by rw [eh_12]; exact rfl) hD
      refine lv_aload_n hx hb dX2_takeCue_42 rfl (lv_at hl 2 rfl) ?_
      obtain ⟨t14, hc13, hf⟩ := bd1_some hf
      refine cV (X := List.take 8 (wX0 E b h_12 ++ wX2 E a t7)) (Y := List.drop 10 (wX0 E b h_12 ++ wX2 E a t7)) (w := (wX0 E b h_12 ++ wX2 E a t7)) (w' := (wX0 E b h_12 ++ wX2 E a t14)) (q0 := 0) lk_X2_31 hx hb hml hown hE hA (c_X2_take l E a t7 t14 hc13) rfl rfl hP hD hS rfl rfl ⟨rfl, rfl, Nat.le_of_ble_eq_true rfl, Nat.le_of_ble_eq_true rfl⟩ hl.1 (As := []) (rest := []) rfl rfl (Nat.le_of_ble_eq_true rfl) ⟨Nat.zero_le _, Nat.zero_le _⟩ dX2_takeCue_43 (fun H locs hP hD hS => ?_)
      refine W.eq (g2 := F0 m 46 ls []) rfl ?_
      refine lv_iconst (v := (1 : Int32)) hx hb dX2_takeCue_46 (by decide) ?_
      obtain ⟨rfl, rfl, rfl⟩ := so3 hf
      exact rt_z (bI_nar _) hx hb hr hlocks hP hD hS dX2_takeCue_47
    · have hf := im c10 hf
      refine lv_iconst (v := (0 : Int32)) hx hb dX2_takeCue_33 (by decide) ?_
      obtain ⟨rfl, rfl, rfl⟩ := so3 hf
      exact rt_z (bI_nar _) hx hb hr hlocks hP hD hS dX2_takeCue_34
  · have hf := ip c5 hf
    refine lv_iconst (v := (0 : Int32)) hx hb dX2_takeCue_13 (by decide) ?_
    obtain ⟨rfl, rfl, rfl⟩ := so3 hf
    exact rt_z (bI_nar _) hx hb hr hlocks hP hD hS dX2_takeCue_14
def f_X2_takeTense (h : HS) (t : TS) : Option (Bool × HS × TS) := bd1 (f_X2_take t) (fun t2 => bd1 (f_X2_isNumberTo t2 (15 : Int32)) (fun r4 => if (bI r4) = 0 then some (false, h, t2) else bd1 (f_X2_take t2) (fun t7 => bd1 (f_X2_isNumberTo t7 (20 : Int32)) (fun r9 => if (bI r9) = 0 then some (false, h, t7) else gd (g2_number t2) 16 (jn1 (s0_tenses h (upd (g0_tenses h) (g2_number t2).toNatClampNeg (g2_number t7))) (fun h_12 => bd1 (f_X2_take t7) (fun t14 => some (true, h_12, t14))))))))
set_option maxHeartbeats 4000000 in
set_option maxRecDepth 100000 in
theorem c_X2_takeTense (l : Launch) (E : EV) (b : Nat → Nat) (a : Nat → Nat) (h : HS) (t : TS)  (r : Bool) (h' : HS) (t' : TS) (hf : f_X2_takeTense h t = some (r, h', t')) : Ct l E yX2_takeTense cX2_takeTense 3 ((Option.some FieldType.boolean)) (rmk 3 60) [.ref (a 0), .ref (b 0)] (wX0 E b h ++ wX2 E a t) (wX0 E b h' ++ wX2 E a t') (some (.int (bI r))) := by
  refine Ct.of (by decide) (Nat.le_of_ble_eq_true rfl) ?_
  intro p e s m below meth c A ls hC hP hD hl
  obtain ⟨hx, hb, hr, hml, hown, hlocks, hE, hA⟩ := hC
  have hts : ∀ w ∈ tbl, w.before [.ref (a 0), .ref (b 0)].toArray s = true := fun w hw => hE.w hw
  have hS : va_S A s.heap s.heap [] := va_S.rf
  have hl : lv_has ls 3 [(0, .ref (a 0)), (1, .ref (b 0))] := hl
  unfold f_X2_takeTense at hf
  refine lv_aload_n hx hb dX2_takeTense_0 rfl (lv_at hl 0 rfl) ?_
  obtain ⟨t2, hc1, hf⟩ := bd1_some hf
  refine cV (X := List.take 8 (wX0 E b h ++ wX2 E a t)) (Y := List.drop 10 (wX0 E b h ++ wX2 E a t)) (w := (wX0 E b h ++ wX2 E a t)) (w' := (wX0 E b h ++ wX2 E a t2)) (q0 := 0) lk_X2_31 hx hb hml hown hE hA (c_X2_take l E a t t2 hc1) rfl rfl hP hD hS rfl rfl ⟨rfl, rfl, Nat.le_of_ble_eq_true rfl, Nat.le_of_ble_eq_true rfl⟩ hl.1 (As := []) (rest := []) rfl rfl (Nat.le_of_ble_eq_true rfl) ⟨Nat.zero_le _, Nat.zero_le _⟩ dX2_takeTense_1 (fun H locs hP hD hS => ?_)
  refine W.eq (g2 := F0 m 4 ls []) rfl ?_
  refine lv_aload_n hx hb dX2_takeTense_4 rfl (lv_at hl 0 rfl) ?_
  refine lv_bipush (v := (15 : Int32)) hx hb dX2_takeTense_5 (by decide) ?_
  obtain ⟨r4, hc3, hf⟩ := bd1_some hf
  refine cV (X := List.take 8 (wX0 E b h ++ wX2 E a t2)) (Y := List.drop 10 (wX0 E b h ++ wX2 E a t2)) (w := (wX0 E b h ++ wX2 E a t2)) (w' := (wX0 E b h ++ wX2 E a t2)) (q0 := 0) lk_X2_75 hx hb hml hown hE hA (c_X2_isNumberTo l E a t2 (15 : Int32) r4 hc3) rfl rfl hP hD hS rfl rfl ⟨rfl, rfl, Nat.le_of_ble_eq_true rfl, Nat.le_of_ble_eq_true rfl⟩ hl.1 (As := [.int (15 : Int32)]) (rest := []) rfl rfl (Nat.le_of_ble_eq_true rfl) ⟨Nat.zero_le _, Nat.zero_le _⟩ dX2_takeTense_7 (fun H locs hP hD hS => ?_)
  refine W.eq (g2 := F0 m 10 ls [.int (bI r4)]) rfl ?_
  refine lv_if_ne (tgt := 15) hx hb dX2_takeTense_10 (by decide) (fun c5 => ?_) (fun c5 => ?_)
  · have hf := im c5 hf
    refine lv_aload_n hx hb dX2_takeTense_15 rfl (lv_at hl 0 rfl) ?_
    refine va_get (D := E.1) (ci := 2) (v := .int (g2_number t2)) (C := RX2) (T := TX2) (N := 6) hx hb hts inX2 hown hE.2.1 hP 8 rfl rfl 5 (by decide) (hE.w tw_83) (fun _ h9 => h9) rfl dX2_takeTense_16 ?_
    refine lv_istore_n (lv' := [(2, .int (g2_number t2)), (0, .ref (a 0)), (1, .ref (b 0))]) hx hb dX2_takeTense_19 rfl hl (by decide) rfl (fun ls hl => ?_)
    refine lv_aload_n hx hb dX2_takeTense_20 rfl (lv_at hl 1 rfl) ?_
    obtain ⟨t7, hc6, hf⟩ := bd1_some hf
    refine cV (X := List.take 8 (wX0 E b h ++ wX2 E a t2)) (Y := List.drop 10 (wX0 E b h ++ wX2 E a t2)) (w := (wX0 E b h ++ wX2 E a t2)) (w' := (wX0 E b h ++ wX2 E a t7)) (q0 := 0) lk_X2_31 hx hb hml hown hE hA (c_X2_take l E a t2 t7 hc6) rfl rfl hP hD hS rfl rfl ⟨rfl, rfl, Nat.le_of_ble_eq_true rfl, Nat.le_of_ble_eq_true rfl⟩ hl.1 (As := []) (rest := []) rfl rfl (Nat.le_of_ble_eq_true rfl) ⟨Nat.zero_le _, Nat.zero_le _⟩ dX2_takeTense_21 (fun H locs hP hD hS => ?_)
    refine W.eq (g2 := F0 m 24 ls []) rfl ?_
    refine lv_aload_n hx hb dX2_takeTense_24 rfl (lv_at hl 1 rfl) ?_
    refine lv_bipush (v := (20 : Int32)) hx hb dX2_takeTense_25 (by decide) ?_
    obtain ⟨r9, hc8, hf⟩ := bd1_some hf
    refine cV (X := List.take 8 (wX0 E b h ++ wX2 E a t7)) (Y := List.drop 10 (wX0 E b h ++ wX2 E a t7)) (w := (wX0 E b h ++ wX2 E a t7)) (w' := (wX0 E b h ++ wX2 E a t7)) (q0 := 0) lk_X2_75 hx hb hml hown hE hA (c_X2_isNumberTo l E a t7 (20 : Int32) r9 hc8) rfl rfl hP hD hS rfl rfl ⟨rfl, rfl, Nat.le_of_ble_eq_true rfl, Nat.le_of_ble_eq_true rfl⟩ hl.1 (As := [.int (20 : Int32)]) (rest := []) rfl rfl (Nat.le_of_ble_eq_true rfl) ⟨Nat.zero_le _, Nat.zero_le _⟩ dX2_takeTense_27 (fun H locs hP hD hS => ?_)
    refine W.eq (g2 := F0 m 30 ls [.int (bI r9)]) rfl ?_
    refine lv_if_ne (tgt := 35) hx hb dX2_takeTense_30 (by decide) (fun c10 => ?_) (fun c10 => ?_)
    · have hf := im c10 hf
      refine lv_aload_n hx hb dX2_takeTense_35 rfl (lv_at hl 2 rfl) ?_
      refine va_getN (D := E.1) (ci := 0) (v := .ref (b 5)) (C := RX0) (T := TX0) (N := 10) hx hb hts inX0 hown hE.2.1 hP 0 rfl rfl 4 (by decide) (hE.w tw_38) (fun _ h9 => h9) rfl dX2_takeTense_36 ?_
      refine lv_iload_n hx hb dX2_takeTense_39 rfl (lv_at hl 0 rfl) ?_
      refine lv_aload_n hx hb dX2_takeTense_40 rfl (lv_at hl 1 rfl) ?_
      refine va_get (D := E.1) (ci := 2) (v := .int (g2_number t7)) (C := RX2) (T := TX2) (N := 6) hx hb hts inX2 hown hE.2.1 hP 8 rfl rfl 5 (by decide) (hE.w tw_83) (fun _ h9 => h9) rfl dX2_takeTense_41 ?_
      obtain ⟨hg11, hf⟩ := gd_some hf
      obtain ⟨h_12, eh_12, hf⟩ := jn1_some hf
      refine va_iast hx hb hE.2.1 hP hD hS 2 0 rfl rfl hg11 dX2_takeTense_44 (fun H locs hP hD hS => ?_)
      have hP : va_P E.1 vwCl (wX0 E b h_12 ++ wX2 E a t7) H := wst (by rw [eh_12]; exact rfl) hP
      have hD : va_D A (wX0 E b h_12 ++ wX2 E a t7) := wsd (by rw [eh_12]; exact rfl) hD
      refine lv_aload_n hx hb dX2_takeTense_45 rfl (lv_at hl 1 rfl) ?_
      obtain ⟨t14, hc13, hf⟩ := bd1_some hf
      refine cV (X := List.take 8 (wX0 E b h_12 ++ wX2 E a t7)) (Y := List.drop 10 (wX0 E b h_12 ++ wX2 E a t7)) (w := (wX0 E b h_12 ++ wX2 E a t7)) (w' := (wX0 E b h_12 ++ wX2 E a t14)) (q0 := 0) lk_X2_31 hx hb hml hown hE hA (c_X2_take l E a t7 t14 hc13) rfl rfl hP hD hS rfl rfl ⟨rfl, rfl, Nat.le_of_ble_eq_true rfl, Nat.le_of_ble_eq_true rfl⟩ hl.1 (As := []) (rest := []) rfl rfl (Nat.le_of_ble_eq_true rfl) ⟨Nat.zero_le _, Nat.zero_le _⟩ dX2_takeTense_46 (fun H locs hP hD hS => ?_)
      refine W.eq (g2 := F0 m 49 ls []) rfl ?_
      refine lv_iconst (v := (1 : Int32)) hx hb dX2_takeTense_49 (by decide) ?_
      obtain ⟨rfl, rfl, rfl⟩ := so3 hf
      exact rt_z (bI_nar _) hx hb hr hlocks hP hD hS dX2_takeTense_50
    · have hf := ip c10 hf
      refine lv_iconst (v := (0 : Int32)) hx hb dX2_takeTense_33 (by decide) ?_
      obtain ⟨rfl, rfl, rfl⟩ := so3 hf
      exact rt_z (bI_nar _) hx hb hr hlocks hP hD hS dX2_takeTense_34
  · have hf := ip c5 hf
    refine lv_iconst (v := (0 : Int32)) hx hb dX2_takeTense_13 (by decide) ?_
    obtain ⟨rfl, rfl, rfl⟩ := so3 hf
    exact rt_z (bI_nar _) hx hb hr hlocks hP hD hS dX2_takeTense_14
def f_X2_takeSwap (h : HS) (t : TS) : Option (Bool × HS × TS) := bd1 (f_X2_take t) (fun t2 => bd1 (f_X2_isNumberTo t2 ((g0_people h) - (1 : Int32))) (fun r4 => if (bI r4) = 0 then some (false, h, t2) else bd1 (f_X2_take t2) (fun t7 => bd1 (f_X2_isNumberTo t7 ((g0_people h) - (1 : Int32))) (fun r9 => if (bI r9) = 0 then some (false, h, t7) else if (g2_number t7) = (g2_number t2) then some (false, h, t7) else bd1 (f_X0_changeSeats h (g2_number t2) (g2_number t7)) (fun h13 => bd1 (f_X2_take t7) (fun t15 => some (true, h13, t15)))))))
set_option maxHeartbeats 4000000 in
set_option maxRecDepth 100000 in
theorem c_X2_takeSwap (l : Launch) (E : EV) (b : Nat → Nat) (a : Nat → Nat) (h : HS) (t : TS)  (r : Bool) (h' : HS) (t' : TS) (hf : f_X2_takeSwap h t = some (r, h', t')) : Ct l E yX2_takeSwap cX2_takeSwap 3 ((Option.some FieldType.boolean)) (rmk 3 60) [.ref (a 0), .ref (b 0)] (wX0 E b h ++ wX2 E a t) (wX0 E b h' ++ wX2 E a t') (some (.int (bI r))) := by
  refine Ct.of (by decide) (Nat.le_of_ble_eq_true rfl) ?_
  intro p e s m below meth c A ls hC hP hD hl
  obtain ⟨hx, hb, hr, hml, hown, hlocks, hE, hA⟩ := hC
  have hts : ∀ w ∈ tbl, w.before [.ref (a 0), .ref (b 0)].toArray s = true := fun w hw => hE.w hw
  have hS : va_S A s.heap s.heap [] := va_S.rf
  have hl : lv_has ls 3 [(0, .ref (a 0)), (1, .ref (b 0))] := hl
  unfold f_X2_takeSwap at hf
  refine lv_aload_n hx hb dX2_takeSwap_0 rfl (lv_at hl 0 rfl) ?_
  obtain ⟨t2, hc1, hf⟩ := bd1_some hf
  refine cV (X := List.take 8 (wX0 E b h ++ wX2 E a t)) (Y := List.drop 10 (wX0 E b h ++ wX2 E a t)) (w := (wX0 E b h ++ wX2 E a t)) (w' := (wX0 E b h ++ wX2 E a t2)) (q0 := 0) lk_X2_31 hx hb hml hown hE hA (c_X2_take l E a t t2 hc1) rfl rfl hP hD hS rfl rfl ⟨rfl, rfl, Nat.le_of_ble_eq_true rfl, Nat.le_of_ble_eq_true rfl⟩ hl.1 (As := []) (rest := []) rfl rfl (Nat.le_of_ble_eq_true rfl) ⟨Nat.zero_le _, Nat.zero_le _⟩ dX2_takeSwap_1 (fun H locs hP hD hS => ?_)
  refine W.eq (g2 := F0 m 4 ls []) rfl ?_
  refine lv_aload_n hx hb dX2_takeSwap_4 rfl (lv_at hl 0 rfl) ?_
  refine lv_aload_n hx hb dX2_takeSwap_5 rfl (lv_at hl 1 rfl) ?_
  refine va_getN (D := E.1) (ci := 0) (v := .int (g0_people h)) (C := RX0) (T := TX0) (N := 10) hx hb hts inX0 hown hE.2.1 hP 0 rfl rfl 2 (by decide) (hE.w tw_32) (fun _ h9 => h9) rfl dX2_takeSwap_6 ?_
  refine lv_iconst (v := (1 : Int32)) hx hb dX2_takeSwap_9 (by decide) ?_
  refine lv_isub hx hb dX2_takeSwap_10 ?_
  obtain ⟨r4, hc3, hf⟩ := bd1_some hf
  refine cV (X := List.take 8 (wX0 E b h ++ wX2 E a t2)) (Y := List.drop 10 (wX0 E b h ++ wX2 E a t2)) (w := (wX0 E b h ++ wX2 E a t2)) (w' := (wX0 E b h ++ wX2 E a t2)) (q0 := 0) lk_X2_75 hx hb hml hown hE hA (c_X2_isNumberTo l E a t2 ((g0_people h) - (1 : Int32)) r4 hc3) rfl rfl hP hD hS rfl rfl ⟨rfl, rfl, Nat.le_of_ble_eq_true rfl, Nat.le_of_ble_eq_true rfl⟩ hl.1 (As := [.int ((g0_people h) - (1 : Int32))]) (rest := []) rfl rfl (Nat.le_of_ble_eq_true rfl) ⟨Nat.zero_le _, Nat.zero_le _⟩ dX2_takeSwap_11 (fun H locs hP hD hS => ?_)
  refine W.eq (g2 := F0 m 14 ls [.int (bI r4)]) rfl ?_
  refine lv_if_ne (tgt := 19) hx hb dX2_takeSwap_14 (by decide) (fun c5 => ?_) (fun c5 => ?_)
  · have hf := im c5 hf
    refine lv_aload_n hx hb dX2_takeSwap_19 rfl (lv_at hl 0 rfl) ?_
    refine va_get (D := E.1) (ci := 2) (v := .int (g2_number t2)) (C := RX2) (T := TX2) (N := 6) hx hb hts inX2 hown hE.2.1 hP 8 rfl rfl 5 (by decide) (hE.w tw_83) (fun _ h9 => h9) rfl dX2_takeSwap_20 ?_
    refine lv_istore_n (lv' := [(2, .int (g2_number t2)), (0, .ref (a 0)), (1, .ref (b 0))]) hx hb dX2_takeSwap_23 rfl hl (by decide) rfl (fun ls hl => ?_)
    refine lv_aload_n hx hb dX2_takeSwap_24 rfl (lv_at hl 1 rfl) ?_
    obtain ⟨t7, hc6, hf⟩ := bd1_some hf
    refine cV (X := List.take 8 (wX0 E b h ++ wX2 E a t2)) (Y := List.drop 10 (wX0 E b h ++ wX2 E a t2)) (w := (wX0 E b h ++ wX2 E a t2)) (w' := (wX0 E b h ++ wX2 E a t7)) (q0 := 0) lk_X2_31 hx hb hml hown hE hA (c_X2_take l E a t2 t7 hc6) rfl rfl hP hD hS rfl rfl ⟨rfl, rfl, Nat.le_of_ble_eq_true rfl, Nat.le_of_ble_eq_true rfl⟩ hl.1 (As := []) (rest := []) rfl rfl (Nat.le_of_ble_eq_true rfl) ⟨Nat.zero_le _, Nat.zero_le _⟩ dX2_takeSwap_25 (fun H locs hP hD hS => ?_)
    refine W.eq (g2 := F0 m 28 ls []) rfl ?_
    refine lv_aload_n hx hb dX2_takeSwap_28 rfl (lv_at hl 1 rfl) ?_
    refine lv_aload_n hx hb dX2_takeSwap_29 rfl (lv_at hl 2 rfl) ?_
    refine va_getN (D := E.1) (ci := 0) (v := .int (g0_people h)) (C := RX0) (T := TX0) (N := 10) hx hb hts inX0 hown hE.2.1 hP 0 rfl rfl 2 (by decide) (hE.w tw_32) (fun _ h9 => h9) rfl dX2_takeSwap_30 ?_
    refine lv_iconst (v := (1 : Int32)) hx hb dX2_takeSwap_33 (by decide) ?_
    refine lv_isub hx hb dX2_takeSwap_34 ?_
    obtain ⟨r9, hc8, hf⟩ := bd1_some hf
    refine cV (X := List.take 8 (wX0 E b h ++ wX2 E a t7)) (Y := List.drop 10 (wX0 E b h ++ wX2 E a t7)) (w := (wX0 E b h ++ wX2 E a t7)) (w' := (wX0 E b h ++ wX2 E a t7)) (q0 := 0) lk_X2_75 hx hb hml hown hE hA (c_X2_isNumberTo l E a t7 ((g0_people h) - (1 : Int32)) r9 hc8) rfl rfl hP hD hS rfl rfl ⟨rfl, rfl, Nat.le_of_ble_eq_true rfl, Nat.le_of_ble_eq_true rfl⟩ hl.1 (As := [.int ((g0_people h) - (1 : Int32))]) (rest := []) rfl rfl (Nat.le_of_ble_eq_true rfl) ⟨Nat.zero_le _, Nat.zero_le _⟩ dX2_takeSwap_35 (fun H locs hP hD hS => ?_)
    refine W.eq (g2 := F0 m 38 ls [.int (bI r9)]) rfl ?_
    refine lv_if_eq (tgt := 49) hx hb dX2_takeSwap_38 (by decide) (fun c10 => ?_) (fun c10 => ?_)
    · have hf := ip c10 hf
      refine lv_iconst (v := (0 : Int32)) hx hb dX2_takeSwap_49 (by decide) ?_
      obtain ⟨rfl, rfl, rfl⟩ := so3 hf
      exact rt_z (bI_nar _) hx hb hr hlocks hP hD hS dX2_takeSwap_50
    · have hf := im c10 hf
      refine lv_aload_n hx hb dX2_takeSwap_41 rfl (lv_at hl 1 rfl) ?_
      refine va_get (D := E.1) (ci := 2) (v := .int (g2_number t7)) (C := RX2) (T := TX2) (N := 6) hx hb hts inX2 hown hE.2.1 hP 8 rfl rfl 5 (by decide) (hE.w tw_83) (fun _ h9 => h9) rfl dX2_takeSwap_42 ?_
      refine lv_iload_n hx hb dX2_takeSwap_45 rfl (lv_at hl 0 rfl) ?_
      refine lv_icmp_ne (tgt := 51) hx hb dX2_takeSwap_46 (by decide) (fun c11 => ?_) (fun c11 => ?_)
      · have hf := im c11 hf
        refine lv_aload_n hx hb dX2_takeSwap_51 rfl (lv_at hl 2 rfl) ?_
        refine lv_iload_n hx hb dX2_takeSwap_52 rfl (lv_at hl 0 rfl) ?_
        refine lv_aload_n hx hb dX2_takeSwap_53 rfl (lv_at hl 1 rfl) ?_
        refine va_get (D := E.1) (ci := 2) (v := .int (g2_number t7)) (C := RX2) (T := TX2) (N := 6) hx hb hts inX2 hown hE.2.1 hP 8 rfl rfl 5 (by decide) (hE.w tw_83) (fun _ h9 => h9) rfl dX2_takeSwap_54 ?_
        obtain ⟨h13, hc12, hf⟩ := bd1_some hf
        refine cVN (X := List.take 0 (wX0 E b h ++ wX2 E a t7)) (Y := List.drop 8 (wX0 E b h ++ wX2 E a t7)) (w := (wX0 E b h ++ wX2 E a t7)) (w' := (wX0 E b h13 ++ wX2 E a t7)) (q0 := 0) lk_X2_92 hx hb hml hown hE hA (c_X0_changeSeats l E b h (g2_number t2) (g2_number t7) h13 hc12) rfl rfl hP hD hS rfl rfl ⟨rfl, rfl, Nat.le_of_ble_eq_true rfl, Nat.le_of_ble_eq_true rfl⟩ hl.1 (As := [.int (g2_number t2), .int (g2_number t7)]) (rest := []) rfl rfl (Nat.le_of_ble_eq_true rfl) ⟨Nat.zero_le _, Nat.zero_le _⟩ dX2_takeSwap_57 (fun H locs hP hD hS => ?_)
        refine W.eq (g2 := F0 m 60 ls []) rfl ?_
        refine lv_aload_n hx hb dX2_takeSwap_60 rfl (lv_at hl 1 rfl) ?_
        obtain ⟨t15, hc14, hf⟩ := bd1_some hf
        refine cV (X := List.take 8 (wX0 E b h13 ++ wX2 E a t7)) (Y := List.drop 10 (wX0 E b h13 ++ wX2 E a t7)) (w := (wX0 E b h13 ++ wX2 E a t7)) (w' := (wX0 E b h13 ++ wX2 E a t15)) (q0 := 0) lk_X2_31 hx hb hml hown hE hA (c_X2_take l E a t7 t15 hc14) rfl rfl hP hD hS rfl rfl ⟨rfl, rfl, Nat.le_of_ble_eq_true rfl, Nat.le_of_ble_eq_true rfl⟩ hl.1 (As := []) (rest := []) rfl rfl (Nat.le_of_ble_eq_true rfl) ⟨Nat.zero_le _, Nat.zero_le _⟩ dX2_takeSwap_61 (fun H locs hP hD hS => ?_)
        refine W.eq (g2 := F0 m 64 ls []) rfl ?_
        refine lv_iconst (v := (1 : Int32)) hx hb dX2_takeSwap_64 (by decide) ?_
        obtain ⟨rfl, rfl, rfl⟩ := so3 hf
        exact rt_z (bI_nar _) hx hb hr hlocks hP hD hS dX2_takeSwap_65
      · have hf := ip c11 hf
        refine lv_iconst (v := (0 : Int32)) hx hb dX2_takeSwap_49 (by decide) ?_
        obtain ⟨rfl, rfl, rfl⟩ := so3 hf
        exact rt_z (bI_nar _) hx hb hr hlocks hP hD hS dX2_takeSwap_50
  · have hf := ip c5 hf
    refine lv_iconst (v := (0 : Int32)) hx hb dX2_takeSwap_17 (by decide) ?_
    obtain ⟨rfl, rfl, rfl⟩ := so3 hf
    exact rt_z (bI_nar _) hx hb hr hlocks hP hD hS dX2_takeSwap_18
def f_X2_takeItem (h : HS) (t : TS) : Option (Bool × HS × TS) := if (g2_token t) = (1 : Int32) then bd1 (f_X2_isWord t 0) (fun r3 => if (bI r3) = 0 then bd1 (f_X2_isWord t 6) (fun r6 => if (bI r6) = 0 then bd1 (f_X2_isWord t 7) (fun r9 => if (bI r9) = 0 then bd3 (f_X2_takePerson h t) (fun r12 h13 t14 => some (r12, h13, t14)) else bd3 (f_X2_takeSwap h t) (fun r16 h17 t18 => some (r16, h17, t18))) else bd3 (f_X2_takeTense h t) (fun r20 h21 t22 => some (r20, h21, t22))) else bd3 (f_X2_takeCue h t) (fun r24 h25 t26 => some (r24, h25, t26))) else some (false, h, t)
set_option maxHeartbeats 4000000 in
set_option maxRecDepth 100000 in
theorem c_X2_takeItem (l : Launch) (E : EV) (b : Nat → Nat) (a : Nat → Nat) (h : HS) (t : TS)  (r : Bool) (h' : HS) (t' : TS) (hf : f_X2_takeItem h t = some (r, h', t')) : Ct l E yX2_takeItem cX2_takeItem 2 ((Option.some FieldType.boolean)) (rmk 7 151) [.ref (a 0), .ref (b 0)] (wX0 E b h ++ wX2 E a t) (wX0 E b h' ++ wX2 E a t') (some (.int (bI r))) := by
  refine Ct.of (by decide) (Nat.le_of_ble_eq_true rfl) ?_
  intro p e s m below meth c A ls hC hP hD hl
  obtain ⟨hx, hb, hr, hml, hown, hlocks, hE, hA⟩ := hC
  have hts : ∀ w ∈ tbl, w.before [.ref (a 0), .ref (b 0)].toArray s = true := fun w hw => hE.w hw
  have hS : va_S A s.heap s.heap [] := va_S.rf
  have hl : lv_has ls 2 [(0, .ref (a 0)), (1, .ref (b 0))] := hl
  unfold f_X2_takeItem at hf
  refine lv_aload_n hx hb dX2_takeItem_0 rfl (lv_at hl 0 rfl) ?_
  refine va_get (D := E.1) (ci := 2) (v := .int (g2_token t)) (C := RX2) (T := TX2) (N := 6) hx hb hts inX2 hown hE.2.1 hP 8 rfl rfl 4 (by decide) (hE.w tw_82) (fun _ h9 => h9) rfl dX2_takeItem_1 ?_
  refine lv_iconst (v := (1 : Int32)) hx hb dX2_takeItem_4 (by decide) ?_
  refine lv_icmp_eq (tgt := 10) hx hb dX2_takeItem_5 (by decide) (fun c1 => ?_) (fun c1 => ?_)
  · have hf := ip c1 hf
    refine lv_aload_n hx hb dX2_takeItem_10 rfl (lv_at hl 0 rfl) ?_
    refine va_ldcS hx hb hown (hE.2.2.2.2.2.2.2 0 (by decide)) dX2_takeItem_11 ?_
    obtain ⟨r3, hc2, hf⟩ := bd1_some hf
    refine cV (X := List.take 8 (wX0 E b h ++ wX2 E a t)) (Y := List.drop 10 (wX0 E b h ++ wX2 E a t)) (w := (wX0 E b h ++ wX2 E a t)) (w' := (wX0 E b h ++ wX2 E a t)) (q0 := 0) lk_X2_40 hx hb hml hown hE hA (c_X2_isWord l E a t 0 (by decide) r3 hc2) rfl rfl hP hD hS rfl rfl ⟨rfl, rfl, Nat.le_of_ble_eq_true rfl, Nat.le_of_ble_eq_true rfl⟩ hl.1 (As := [.ref (E.2.2.2.1 0)]) (rest := []) rfl rfl (Nat.le_of_ble_eq_true rfl) ⟨Nat.zero_le _, Nat.zero_le _⟩ dX2_takeItem_13 (fun H locs hP hD hS => ?_)
    refine W.eq (g2 := F0 m 16 ls [.int (bI r3)]) rfl ?_
    refine lv_if_eq (tgt := 25) hx hb dX2_takeItem_16 (by decide) (fun c4 => ?_) (fun c4 => ?_)
    · have hf := ip c4 hf
      refine lv_aload_n hx hb dX2_takeItem_25 rfl (lv_at hl 0 rfl) ?_
      refine va_ldcS hx hb hown (hE.2.2.2.2.2.2.2 6 (by decide)) dX2_takeItem_26 ?_
      obtain ⟨r6, hc5, hf⟩ := bd1_some hf
      refine cV (X := List.take 8 (wX0 E b h ++ wX2 E a t)) (Y := List.drop 10 (wX0 E b h ++ wX2 E a t)) (w := (wX0 E b h ++ wX2 E a t)) (w' := (wX0 E b h ++ wX2 E a t)) (q0 := 0) lk_X2_40 hx hb hml hown hE hA (c_X2_isWord l E a t 6 (by decide) r6 hc5) rfl rfl hP hD hS rfl rfl ⟨rfl, rfl, Nat.le_of_ble_eq_true rfl, Nat.le_of_ble_eq_true rfl⟩ hl.1 (As := [.ref (E.2.2.2.1 6)]) (rest := []) rfl rfl (Nat.le_of_ble_eq_true rfl) ⟨Nat.zero_le _, Nat.zero_le _⟩ dX2_takeItem_28 (fun H locs hP hD hS => ?_)
      refine W.eq (g2 := F0 m 31 ls [.int (bI r6)]) rfl ?_
      refine lv_if_eq (tgt := 40) hx hb dX2_takeItem_31 (by decide) (fun c7 => ?_) (fun c7 => ?_)
      · have hf := ip c7 hf
        refine lv_aload_n hx hb dX2_takeItem_40 rfl (lv_at hl 0 rfl) ?_
        refine va_ldcS hx hb hown (hE.2.2.2.2.2.2.2 7 (by decide)) dX2_takeItem_41 ?_
        obtain ⟨r9, hc8, hf⟩ := bd1_some hf
        refine cV (X := List.take 8 (wX0 E b h ++ wX2 E a t)) (Y := List.drop 10 (wX0 E b h ++ wX2 E a t)) (w := (wX0 E b h ++ wX2 E a t)) (w' := (wX0 E b h ++ wX2 E a t)) (q0 := 0) lk_X2_40 hx hb hml hown hE hA (c_X2_isWord l E a t 7 (by decide) r9 hc8) rfl rfl hP hD hS rfl rfl ⟨rfl, rfl, Nat.le_of_ble_eq_true rfl, Nat.le_of_ble_eq_true rfl⟩ hl.1 (As := [.ref (E.2.2.2.1 7)]) (rest := []) rfl rfl (Nat.le_of_ble_eq_true rfl) ⟨Nat.zero_le _, Nat.zero_le _⟩ dX2_takeItem_43 (fun H locs hP hD hS => ?_)
        refine W.eq (g2 := F0 m 46 ls [.int (bI r9)]) rfl ?_
        refine lv_if_eq (tgt := 55) hx hb dX2_takeItem_46 (by decide) (fun c10 => ?_) (fun c10 => ?_)
        · have hf := ip c10 hf
          refine lv_aload_n hx hb dX2_takeItem_55 rfl (lv_at hl 0 rfl) ?_
          refine lv_aload_n hx hb dX2_takeItem_56 rfl (lv_at hl 1 rfl) ?_
          obtain ⟨r12, h13, t14, hc11, hf⟩ := bd3_some hf
          refine cV (X := List.take 0 (wX0 E b h ++ wX2 E a t)) (Y := List.drop 10 (wX0 E b h ++ wX2 E a t)) (w := (wX0 E b h ++ wX2 E a t)) (w' := (wX0 E b h13 ++ wX2 E a t14)) (q0 := 8) lk_X2_57 hx hb hml hown hE hA (c_X2_takePerson l E b a h t r12 h13 t14 hc11) rfl rfl hP hD hS rfl rfl ⟨rfl, rfl, Nat.le_of_ble_eq_true rfl, Nat.le_of_ble_eq_true rfl⟩ hl.1 (As := [.ref (b 0)]) (rest := []) rfl rfl (Nat.le_of_ble_eq_true rfl) ⟨Nat.zero_le _, Nat.zero_le _⟩ dX2_takeItem_57 (fun H locs hP hD hS => ?_)
          refine W.eq (g2 := F0 m 60 ls [.int (bI r12)]) rfl ?_
          obtain ⟨rfl, rfl, rfl⟩ := so3 hf
          exact rt_z (bI_nar _) hx hb hr hlocks hP hD hS dX2_takeItem_60
        · have hf := im c10 hf
          refine lv_aload_n hx hb dX2_takeItem_49 rfl (lv_at hl 0 rfl) ?_
          refine lv_aload_n hx hb dX2_takeItem_50 rfl (lv_at hl 1 rfl) ?_
          obtain ⟨r16, h17, t18, hc15, hf⟩ := bd3_some hf
          refine cV (X := List.take 0 (wX0 E b h ++ wX2 E a t)) (Y := List.drop 10 (wX0 E b h ++ wX2 E a t)) (w := (wX0 E b h ++ wX2 E a t)) (w' := (wX0 E b h17 ++ wX2 E a t18)) (q0 := 8) lk_X2_54 hx hb hml hown hE hA (c_X2_takeSwap l E b a h t r16 h17 t18 hc15) rfl rfl hP hD hS rfl rfl ⟨rfl, rfl, Nat.le_of_ble_eq_true rfl, Nat.le_of_ble_eq_true rfl⟩ hl.1 (As := [.ref (b 0)]) (rest := []) rfl rfl (Nat.le_of_ble_eq_true rfl) ⟨Nat.zero_le _, Nat.zero_le _⟩ dX2_takeItem_51 (fun H locs hP hD hS => ?_)
          refine W.eq (g2 := F0 m 54 ls [.int (bI r16)]) rfl ?_
          obtain ⟨rfl, rfl, rfl⟩ := so3 hf
          exact rt_z (bI_nar _) hx hb hr hlocks hP hD hS dX2_takeItem_54
      · have hf := im c7 hf
        refine lv_aload_n hx hb dX2_takeItem_34 rfl (lv_at hl 0 rfl) ?_
        refine lv_aload_n hx hb dX2_takeItem_35 rfl (lv_at hl 1 rfl) ?_
        obtain ⟨r20, h21, t22, hc19, hf⟩ := bd3_some hf
        refine cV (X := List.take 0 (wX0 E b h ++ wX2 E a t)) (Y := List.drop 10 (wX0 E b h ++ wX2 E a t)) (w := (wX0 E b h ++ wX2 E a t)) (w' := (wX0 E b h21 ++ wX2 E a t22)) (q0 := 8) lk_X2_49 hx hb hml hown hE hA (c_X2_takeTense l E b a h t r20 h21 t22 hc19) rfl rfl hP hD hS rfl rfl ⟨rfl, rfl, Nat.le_of_ble_eq_true rfl, Nat.le_of_ble_eq_true rfl⟩ hl.1 (As := [.ref (b 0)]) (rest := []) rfl rfl (Nat.le_of_ble_eq_true rfl) ⟨Nat.zero_le _, Nat.zero_le _⟩ dX2_takeItem_36 (fun H locs hP hD hS => ?_)
        refine W.eq (g2 := F0 m 39 ls [.int (bI r20)]) rfl ?_
        obtain ⟨rfl, rfl, rfl⟩ := so3 hf
        exact rt_z (bI_nar _) hx hb hr hlocks hP hD hS dX2_takeItem_39
    · have hf := im c4 hf
      refine lv_aload_n hx hb dX2_takeItem_19 rfl (lv_at hl 0 rfl) ?_
      refine lv_aload_n hx hb dX2_takeItem_20 rfl (lv_at hl 1 rfl) ?_
      obtain ⟨r24, h25, t26, hc23, hf⟩ := bd3_some hf
      refine cV (X := List.take 0 (wX0 E b h ++ wX2 E a t)) (Y := List.drop 10 (wX0 E b h ++ wX2 E a t)) (w := (wX0 E b h ++ wX2 E a t)) (w' := (wX0 E b h25 ++ wX2 E a t26)) (q0 := 8) lk_X2_44 hx hb hml hown hE hA (c_X2_takeCue l E b a h t r24 h25 t26 hc23) rfl rfl hP hD hS rfl rfl ⟨rfl, rfl, Nat.le_of_ble_eq_true rfl, Nat.le_of_ble_eq_true rfl⟩ hl.1 (As := [.ref (b 0)]) (rest := []) rfl rfl (Nat.le_of_ble_eq_true rfl) ⟨Nat.zero_le _, Nat.zero_le _⟩ dX2_takeItem_21 (fun H locs hP hD hS => ?_)
      refine W.eq (g2 := F0 m 24 ls [.int (bI r24)]) rfl ?_
      obtain ⟨rfl, rfl, rfl⟩ := so3 hf
      exact rt_z (bI_nar _) hx hb hr hlocks hP hD hS dX2_takeItem_24
  · have hf := im c1 hf
    refine lv_iconst (v := (0 : Int32)) hx hb dX2_takeItem_8 (by decide) ?_
    obtain ⟨rfl, rfl, rfl⟩ := so3 hf
    exact rt_z (bI_nar _) hx hb hr hlocks hP hD hS dX2_takeItem_9
def lp_X2_tellTo_7  : Nat → (Int32) → (HS) → (TS) → Option (Int32 × HS × TS)
  | 0, _, _, _ => none
  | k_2 + 1, v2_2, h_2, t_2 => if (120 : Int32) < v2_2 then some (((-1 : Int32) - (g2_first t_2)), h_2, t_2) else bd1 (f_X2_take t_2) (fun t5 => bd3 (f_X2_takeItem h_2 t5) (fun r7 h8 t9 => if (bI r7) = 0 then some (((-1 : Int32) - (g2_first t9)), h8, t9) else if (g2_token t9) = 0 then some (v2_2, h8, t9) else if (g2_token t9) = (3 : Int32) then lp_X2_tellTo_7  k_2 (v2_2 + (1 : Int32)) h8 t9 else some (((-1 : Int32) - (g2_first t9)), h8, t9)))
def f_X2_tellTo (h : HS) (t : TS) : Option (Int32 × HS × TS) := jn1 (s2_behind t (0 : Int32)) (fun t_1 => lp_X2_tellTo_7  FU (1 : Int32) h t_1)
set_option maxHeartbeats 4000000 in
set_option maxRecDepth 100000 in
theorem c_X2_tellTo (l : Launch) (E : EV) (b : Nat → Nat) (a : Nat → Nat) (h : HS) (t : TS)  (r : Int32) (h' : HS) (t' : TS) (hf : f_X2_tellTo h t = some (r, h', t')) : Ct l E yX2_tellTo cX2_tellTo 3 ((Option.some FieldType.int)) (rmk 8 172) [.ref (a 0), .ref (b 0)] (wX0 E b h ++ wX2 E a t) (wX0 E b h' ++ wX2 E a t') (some (.int r)) := by
  refine Ct.of (by decide) (Nat.le_of_ble_eq_true rfl) ?_
  intro p e s m below meth c A ls hC hP hD hl
  obtain ⟨hx, hb, hr, hml, hown, hlocks, hE, hA⟩ := hC
  have hts : ∀ w ∈ tbl, w.before [.ref (a 0), .ref (b 0)].toArray s = true := fun w hw => hE.w hw
  have hS : va_S A s.heap s.heap [] := va_S.rf
  have hl : lv_has ls 3 [(0, .ref (a 0)), (1, .ref (b 0))] := hl
  unfold f_X2_tellTo at hf
  refine lv_aload_n hx hb dX2_tellTo_0 rfl (lv_at hl 0 rfl) ?_
  refine lv_iconst (v := (0 : Int32)) hx hb dX2_tellTo_1 (by decide) ?_
  obtain ⟨t_1, et_1, hf⟩ := jn1_some hf
  refine va_put (D := E.1) (ci := 2) (v := .int (0 : Int32)) (ty := .int) (C := RX2) (T := TX2) (N := 6) hx hb hts inX2 tyX2 tyX2_ok nmX2 hown hE.2.1 hP hD hS 8 rfl rfl 3 (by decide) (hE.w tw_81) (fun _ h9 => h9) rfl (by decide +kernel) rfl rfl (Nat.le_of_ble_eq_true rfl) dX2_tellTo_2 (fun H locs hP hD hS => ?_)
  have hP : va_P E.1 vwCl (wX0 E b h ++ wX2 E a t_1) H := wst (by rw [et_1]; exact rfl) hP
  have hD : va_D A (wX0 E b h ++ wX2 E a t_1) := wsd (by rw [et_1]; exact rfl) hD
  refine lv_iconst (v := (1 : Int32)) hx hb dX2_tellTo_5 (by decide) ?_
  refine lv_istore_n (lv' := [(2, .int (1 : Int32)), (0, .ref (a 0)), (1, .ref (b 0))]) hx hb dX2_tellTo_6 rfl hl (by decide) rfl (fun ls hl => ?_)
  have L_2 : ∀ (k_2 : Nat) (v2_2 : Int32) (h_2 : HS) (t_2 : TS), lp_X2_tellTo_7  k_2 v2_2 h_2 t_2 = some (r, h', t') → ∀ (H : Heap) (locs : List Loc) (ls : Array Slot), va_P E.1 vwCl (wX0 E b h_2 ++ wX2 E a t_2) H → va_D A (wX0 E b h_2 ++ wX2 E a t_2) → va_S A s.heap H locs → lv_has ls 3 [(2, .int v2_2), (0, .ref (a 0)), (1, .ref (b 0))] → W p l e (rmk 8 172) s m [.ref (a 0), .ref (b 0)].toArray below meth c H locs 0 0 (MQ below (Qct E A (wX0 E b h' ++ wX2 E a t') (some (.int r))) [.ref (a 0), .ref (b 0)].toArray s 0 0 A) (F0 m 7 ls []) := by
    intro k_2
    induction k_2 with
    | zero =>
      intro v2_2 h_2 t_2 hf
      rw [lp_X2_tellTo_7] at hf
      cases hf
    | succ k_2 ih_2 =>
      intro v2_2 h_2 t_2 hf H locs ls hP hD hS hl
      rw [lp_X2_tellTo_7] at hf
      refine lv_iload_n hx hb dX2_tellTo_7 rfl (lv_at hl 0 rfl) ?_
      refine lv_bipush (v := (120 : Int32)) hx hb dX2_tellTo_8 (by decide) ?_
      refine lv_icmp_gt (tgt := 62) hx hb dX2_tellTo_10 (by decide) (fun c3 => ?_) (fun c3 => ?_)
      · have hf := ip c3 hf
        refine lv_iconst (v := (-1 : Int32)) hx hb dX2_tellTo_62 (by decide) ?_
        refine lv_aload_n hx hb dX2_tellTo_63 rfl (lv_at hl 1 rfl) ?_
        refine va_get (D := E.1) (ci := 2) (v := .int (g2_first t_2)) (C := RX2) (T := TX2) (N := 6) hx hb hts inX2 hown hE.2.1 hP 8 rfl rfl 2 (by decide) (hE.w tw_80) (fun _ h9 => h9) rfl dX2_tellTo_64 ?_
        refine lv_isub hx hb dX2_tellTo_67 ?_
        obtain ⟨rfl, rfl, rfl⟩ := so3 hf
        exact rt_i hx hb hr hlocks hP hD hS dX2_tellTo_68
      · have hf := im c3 hf
        refine lv_aload_n hx hb dX2_tellTo_13 rfl (lv_at hl 1 rfl) ?_
        obtain ⟨t5, hc4, hf⟩ := bd1_some hf
        refine cV (X := List.take 8 (wX0 E b h_2 ++ wX2 E a t_2)) (Y := List.drop 10 (wX0 E b h_2 ++ wX2 E a t_2)) (w := (wX0 E b h_2 ++ wX2 E a t_2)) (w' := (wX0 E b h_2 ++ wX2 E a t5)) (q0 := 0) lk_X2_31 hx hb hml hown hE hA (c_X2_take l E a t_2 t5 hc4) rfl rfl hP hD hS rfl rfl ⟨rfl, rfl, Nat.le_of_ble_eq_true rfl, Nat.le_of_ble_eq_true rfl⟩ hl.1 (As := []) (rest := []) rfl rfl (Nat.le_of_ble_eq_true rfl) ⟨Nat.zero_le _, Nat.zero_le _⟩ dX2_tellTo_14 (fun H locs hP hD hS => ?_)
        refine W.eq (g2 := F0 m 17 ls []) rfl ?_
        refine lv_aload_n hx hb dX2_tellTo_17 rfl (lv_at hl 1 rfl) ?_
        refine lv_aload_n hx hb dX2_tellTo_18 rfl (lv_at hl 2 rfl) ?_
        obtain ⟨r7, h8, t9, hc6, hf⟩ := bd3_some hf
        refine cV (X := List.take 0 (wX0 E b h_2 ++ wX2 E a t5)) (Y := List.drop 10 (wX0 E b h_2 ++ wX2 E a t5)) (w := (wX0 E b h_2 ++ wX2 E a t5)) (w' := (wX0 E b h8 ++ wX2 E a t9)) (q0 := 8) lk_X2_34 hx hb hml hown hE hA (c_X2_takeItem l E b a h_2 t5 r7 h8 t9 hc6) rfl rfl hP hD hS rfl rfl ⟨rfl, rfl, Nat.le_of_ble_eq_true rfl, Nat.le_of_ble_eq_true rfl⟩ hl.1 (As := [.ref (b 0)]) (rest := []) rfl rfl (Nat.le_of_ble_eq_true rfl) ⟨Nat.zero_le _, Nat.zero_le _⟩ dX2_tellTo_19 (fun H locs hP hD hS => ?_)
        refine W.eq (g2 := F0 m 22 ls [.int (bI r7)]) rfl ?_
        refine lv_if_ne (tgt := 32) hx hb dX2_tellTo_22 (by decide) (fun c10 => ?_) (fun c10 => ?_)
        · have hf := im c10 hf
          refine lv_aload_n hx hb dX2_tellTo_32 rfl (lv_at hl 1 rfl) ?_
          refine va_get (D := E.1) (ci := 2) (v := .int (g2_token t9)) (C := RX2) (T := TX2) (N := 6) hx hb hts inX2 hown hE.2.1 hP 8 rfl rfl 4 (by decide) (hE.w tw_82) (fun _ h9 => h9) rfl dX2_tellTo_33 ?_
          refine lv_if_ne (tgt := 41) hx hb dX2_tellTo_36 (by decide) (fun c11 => ?_) (fun c11 => ?_)
          · have hf := im c11 hf
            refine lv_aload_n hx hb dX2_tellTo_41 rfl (lv_at hl 1 rfl) ?_
            refine va_get (D := E.1) (ci := 2) (v := .int (g2_token t9)) (C := RX2) (T := TX2) (N := 6) hx hb hts inX2 hown hE.2.1 hP 8 rfl rfl 4 (by decide) (hE.w tw_82) (fun _ h9 => h9) rfl dX2_tellTo_42 ?_
            refine lv_iconst (v := (3 : Int32)) hx hb dX2_tellTo_45 (by decide) ?_
            refine lv_icmp_eq (tgt := 56) hx hb dX2_tellTo_46 (by decide) (fun c12 => ?_) (fun c12 => ?_)
            · have hf := ip c12 hf
              refine lv_iinc (v := (v2_2 + (1 : Int32))) (lv' := [(2, .int (v2_2 + (1 : Int32))), (0, .ref (a 0)), (1, .ref (b 0))]) hx hb dX2_tellTo_56 hl (k := 0) rfl rfl (by decide) rfl (fun ls hl => ?_)
              refine lv_goto (tgt := 7) hx hb dX2_tellTo_59 (by decide) ?_
              exact ih_2 _ _ _ hf _ _ _ hP hD hS (lv_sub hl [0, 1, 2] rfl)
            · have hf := im c12 hf
              refine lv_iconst (v := (-1 : Int32)) hx hb dX2_tellTo_49 (by decide) ?_
              refine lv_aload_n hx hb dX2_tellTo_50 rfl (lv_at hl 1 rfl) ?_
              refine va_get (D := E.1) (ci := 2) (v := .int (g2_first t9)) (C := RX2) (T := TX2) (N := 6) hx hb hts inX2 hown hE.2.1 hP 8 rfl rfl 2 (by decide) (hE.w tw_80) (fun _ h9 => h9) rfl dX2_tellTo_51 ?_
              refine lv_isub hx hb dX2_tellTo_54 ?_
              obtain ⟨rfl, rfl, rfl⟩ := so3 hf
              exact rt_i hx hb hr hlocks hP hD hS dX2_tellTo_55
          · have hf := ip c11 hf
            refine lv_iload_n hx hb dX2_tellTo_39 rfl (lv_at hl 0 rfl) ?_
            obtain ⟨rfl, rfl, rfl⟩ := so3 hf
            exact rt_i hx hb hr hlocks hP hD hS dX2_tellTo_40
        · have hf := ip c10 hf
          refine lv_iconst (v := (-1 : Int32)) hx hb dX2_tellTo_25 (by decide) ?_
          refine lv_aload_n hx hb dX2_tellTo_26 rfl (lv_at hl 1 rfl) ?_
          refine va_get (D := E.1) (ci := 2) (v := .int (g2_first t9)) (C := RX2) (T := TX2) (N := 6) hx hb hts inX2 hown hE.2.1 hP 8 rfl rfl 2 (by decide) (hE.w tw_80) (fun _ h9 => h9) rfl dX2_tellTo_27 ?_
          refine lv_isub hx hb dX2_tellTo_30 ?_
          obtain ⟨rfl, rfl, rfl⟩ := so3 hf
          exact rt_i hx hb hr hlocks hP hD hS dX2_tellTo_31
  exact L_2 _ _ _ _ hf _ _ _ hP hD hS (lv_sub hl [0, 1, 2] rfl)
