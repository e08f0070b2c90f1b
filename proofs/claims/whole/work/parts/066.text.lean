def f_X2_isLetter (p1 : Int32) : Option (Bool) := if p1 < (97 : Int32) then some (false) else if (122 : Int32) < p1 then some (false) else some (true)
set_option maxHeartbeats 4000000 in
set_option maxRecDepth 100000 in
theorem c_X2_isLetter (l : Launch) (E : EV)  (p1 : Int32)  (r : Bool) (hf : f_X2_isLetter p1 = some r) : Ct l E yX2_isLetter cX2_isLetter 1 ((Option.some FieldType.boolean)) (rmk 0 0) [.int p1] ([] : va_W) ([] : va_W) (some (.int (bI r))) := by
  refine Ct.of (by decide) (Nat.le_of_ble_eq_true rfl) ?_
  intro p e s m below meth c A ls hC hP hD hl
  obtain ⟨hx, hb, hr, hml, hown, hlocks, hE, hA⟩ := hC
  have hts : ∀ w ∈ tbl, w.before [.int p1].toArray s = true := fun w hw => hE.w hw
  have hS : va_S A s.heap s.heap [] := va_S.rf
  have hl : lv_has ls 1 [(0, .int p1)] := hl
  unfold f_X2_isLetter at hf
  refine lv_iload_n hx hb dX2_isLetter_0 rfl (lv_at hl 0 rfl) ?_
  refine lv_bipush (v := (97 : Int32)) hx hb dX2_isLetter_1 (by decide) ?_
  refine lv_icmp_lt (tgt := 16) hx hb dX2_isLetter_3 (by decide) (fun c1 => ?_) (fun c1 => ?_)
  · have hf := ip c1 hf
    refine lv_iconst (v := (0 : Int32)) hx hb dX2_isLetter_16 (by decide) ?_
    obtain rfl := so1 hf
    exact rt_z (bI_nar _) hx hb hr hlocks hP hD hS dX2_isLetter_17
  · have hf := im c1 hf
    refine lv_iload_n hx hb dX2_isLetter_6 rfl (lv_at hl 0 rfl) ?_
    refine lv_bipush (v := (122 : Int32)) hx hb dX2_isLetter_7 (by decide) ?_
    refine lv_icmp_gt (tgt := 16) hx hb dX2_isLetter_9 (by decide) (fun c2 => ?_) (fun c2 => ?_)
    · have hf := ip c2 hf
      refine lv_iconst (v := (0 : Int32)) hx hb dX2_isLetter_16 (by decide) ?_
      obtain rfl := so1 hf
      exact rt_z (bI_nar _) hx hb hr hlocks hP hD hS dX2_isLetter_17
    · have hf := im c2 hf
      refine lv_iconst (v := (1 : Int32)) hx hb dX2_isLetter_12 (by decide) ?_
      refine lv_goto (tgt := 17) hx hb dX2_isLetter_13 (by decide) ?_
      obtain rfl := so1 hf
      exact rt_z (bI_nar _) hx hb hr hlocks hP hD hS dX2_isLetter_17
def f_X2_isDigit (p1 : Int32) : Option (Bool) := if p1 < (48 : Int32) then some (false) else if (57 : Int32) < p1 then some (false) else some (true)
set_option maxHeartbeats 4000000 in
set_option maxRecDepth 100000 in
theorem c_X2_isDigit (l : Launch) (E : EV)  (p1 : Int32)  (r : Bool) (hf : f_X2_isDigit p1 = some r) : Ct l E yX2_isDigit cX2_isDigit 1 ((Option.some FieldType.boolean)) (rmk 0 0) [.int p1] ([] : va_W) ([] : va_W) (some (.int (bI r))) := by
  refine Ct.of (by decide) (Nat.le_of_ble_eq_true rfl) ?_
  intro p e s m below meth c A ls hC hP hD hl
  obtain ⟨hx, hb, hr, hml, hown, hlocks, hE, hA⟩ := hC
  have hts : ∀ w ∈ tbl, w.before [.int p1].toArray s = true := fun w hw => hE.w hw
  have hS : va_S A s.heap s.heap [] := va_S.rf
  have hl : lv_has ls 1 [(0, .int p1)] := hl
  unfold f_X2_isDigit at hf
  refine lv_iload_n hx hb dX2_isDigit_0 rfl (lv_at hl 0 rfl) ?_
  refine lv_bipush (v := (48 : Int32)) hx hb dX2_isDigit_1 (by decide) ?_
  refine lv_icmp_lt (tgt := 16) hx hb dX2_isDigit_3 (by decide) (fun c1 => ?_) (fun c1 => ?_)
  · have hf := ip c1 hf
    refine lv_iconst (v := (0 : Int32)) hx hb dX2_isDigit_16 (by decide) ?_
    obtain rfl := so1 hf
    exact rt_z (bI_nar _) hx hb hr hlocks hP hD hS dX2_isDigit_17
  · have hf := im c1 hf
    refine lv_iload_n hx hb dX2_isDigit_6 rfl (lv_at hl 0 rfl) ?_
    refine lv_bipush (v := (57 : Int32)) hx hb dX2_isDigit_7 (by decide) ?_
    refine lv_icmp_gt (tgt := 16) hx hb dX2_isDigit_9 (by decide) (fun c2 => ?_) (fun c2 => ?_)
    · have hf := ip c2 hf
      refine lv_iconst (v := (0 : Int32)) hx hb dX2_isDigit_16 (by decide) ?_
      obtain rfl := so1 hf
      exact rt_z (bI_nar _) hx hb hr hlocks hP hD hS dX2_isDigit_17
    · have hf := im c2 hf
      refine lv_iconst (v := (1 : Int32)) hx hb dX2_isDigit_12 (by decide) ?_
      refine lv_goto (tgt := 17) hx hb dX2_isDigit_13 (by decide) ?_
      obtain rfl := so1 hf
      exact rt_z (bI_nar _) hx hb hr hlocks hP hD hS dX2_isDigit_17
def f_X2_add (t : TS) (p1 : Int32) : Option (TS) := if (120 : Int32) ≤ (g2_length t) then some (t) else gd (g2_length t) 120 (jn1 (s2_bytes t (upd (g2_bytes t) (g2_length t).toNatClampNeg (vp_nar .byte p1))) (fun t_3 => jn1 (s2_length t_3 ((g2_length t_3) + (1 : Int32))) (fun t_4 => some (t_4))))
set_option maxHeartbeats 4000000 in
set_option maxRecDepth 100000 in
theorem c_X2_add (l : Launch) (E : EV) (a : Nat → Nat) (t : TS) (p1 : Int32)  (t' : TS) (hf : f_X2_add t p1 = some t') : Ct l E yX2_add cX2_add 2 (none) (rmk 0 0) [.ref (a 0), .int p1] (wX2 E a t) (wX2 E a t') none := by
  refine Ct.of (by decide) (Nat.le_of_ble_eq_true rfl) ?_
  intro p e s m below meth c A ls hC hP hD hl
  obtain ⟨hx, hb, hr, hml, hown, hlocks, hE, hA⟩ := hC
  have hts : ∀ w ∈ tbl, w.before [.ref (a 0), .int p1].toArray s = true := fun w hw => hE.w hw
  have hS : va_S A s.heap s.heap [] := va_S.rf
  have hl : lv_has ls 2 [(0, .ref (a 0)), (1, .int p1)] := hl
  unfold f_X2_add at hf
  refine lv_aload_n hx hb dX2_add_0 rfl (lv_at hl 0 rfl) ?_
  refine va_get (D := E.1) (ci := 2) (v := .int (g2_length t)) (C := RX2) (T := TX2) (N := 6) hx hb hts inX2 hown hE.2.1 hP 0 rfl rfl 1 (by decide) (hE.w tw_78) (fun _ h9 => h9) rfl dX2_add_1 ?_
  refine lv_bipush (v := (120 : Int32)) hx hb dX2_add_4 (by decide) ?_
  refine lv_icmp_ge (tgt := 29) hx hb dX2_add_6 (by decide) (fun c1 => ?_) (fun c1 => ?_)
  · have hf := ip c1 hf
    obtain rfl := so1 hf
    exact rt_v hx hb hr hlocks hP hD hS dX2_add_29
  · have hf := im c1 hf
    refine lv_aload_n hx hb dX2_add_9 rfl (lv_at hl 0 rfl) ?_
    refine va_get (D := E.1) (ci := 2) (v := .ref (a 1)) (C := RX2) (T := TX2) (N := 6) hx hb hts inX2 hown hE.2.1 hP 0 rfl rfl 0 (by decide) (hE.w tw_77) (fun _ h9 => h9) rfl dX2_add_10 ?_
    refine lv_aload_n hx hb dX2_add_13 rfl (lv_at hl 0 rfl) ?_
    refine va_get (D := E.1) (ci := 2) (v := .int (g2_length t)) (C := RX2) (T := TX2) (N := 6) hx hb hts inX2 hown hE.2.1 hP 0 rfl rfl 1 (by decide) (hE.w tw_78) (fun _ h9 => h9) rfl dX2_add_14 ?_
    refine lv_iload_n hx hb dX2_add_17 rfl (lv_at hl 1 rfl) ?_
    obtain ⟨hg2, hf⟩ := gd_some hf
    obtain ⟨t_3, et_3, hf⟩ := jn1_some hf
    refine va_bast hx hb hE.2.1 hP hD hS 1 2 rfl rfl hg2 dX2_add_18 (fun H locs hP hD hS => ?_)
    have hP : va_P E.1 vwCl (wX2 E a t_3) H := wst (by rw [et_3]; exact rfl) hP
    have hD : va_D A (wX2 E a t_3) := wsd (by rw [et_3]; exact rfl) hD
    refine lv_aload_n hx hb dX2_add_19 rfl (lv_at hl 0 rfl) ?_
    refine lv_dup hx hb dX2_add_20 rfl ?_
    refine va_get (D := E.1) (ci := 2) (v := .int (g2_length t_3)) (C := RX2) (T := TX2) (N := 6) hx hb hts inX2 hown hE.2.1 hP 0 rfl rfl 1 (by decide) (hE.w tw_78) (fun _ h9 => h9) rfl dX2_add_21 ?_
    refine lv_iconst (v := (1 : Int32)) hx hb dX2_add_24 (by decide) ?_
    refine lv_iadd hx hb dX2_add_25 ?_
    obtain ⟨t_4, et_4, hf⟩ := jn1_some hf
    refine va_put (D := E.1) (ci := 2) (v := .int ((g2_length t_3) + (1 : Int32))) (ty := .int) (C := RX2) (T := TX2) (N := 6) hx hb hts inX2 tyX2 tyX2_ok nmX2 hown hE.2.1 hP hD hS 0 rfl rfl 1 (by decide) (hE.w tw_78) (fun _ h9 => h9) rfl (by decide +kernel) rfl rfl (Nat.le_of_ble_eq_true rfl) dX2_add_26 (fun H locs hP hD hS => ?_)
    have hP : va_P E.1 vwCl (wX2 E a t_4) H := wst (by rw [et_4]; exact rfl) hP
    have hD : va_D A (wX2 E a t_4) := wsd (by rw [et_4]; exact rfl) hD
    obtain rfl := so1 hf
    exact rt_v hx hb hr hlocks hP hD hS dX2_add_29
def lp_X2_takeWord_5  : Nat → (TS) → Option (TS)
  | 0, _ => none
  | k_2 + 1, t_2 => if (g2_length t_2) ≤ (g2_behind t_2) then some (t_2) else gd (g2_behind t_2) 120 (bd1 (f_X2_isLetter ((g2_bytes t_2) (g2_behind t_2).toNatClampNeg)) (fun r6 => if (bI r6) = 0 then some (t_2) else jn1 (s2_behind t_2 ((g2_behind t_2) + (1 : Int32))) (fun t_8 => lp_X2_takeWord_5  k_2 t_8)))
def f_X2_takeWord (t : TS) : Option (TS) := jn1 (s2_token t (1 : Int32)) (fun t_1 => lp_X2_takeWord_5  FU t_1)
set_option maxHeartbeats 4000000 in
set_option maxRecDepth 100000 in
theorem c_X2_takeWord (l : Launch) (E : EV) (a : Nat → Nat) (t : TS)  (t' : TS) (hf : f_X2_takeWord t = some t') : Ct l E yX2_takeWord cX2_takeWord 1 (none) (rmk 1 20) [.ref (a 0)] (wX2 E a t) (wX2 E a t') none := by
  refine Ct.of (by decide) (Nat.le_of_ble_eq_true rfl) ?_
  intro p e s m below meth c A ls hC hP hD hl
  obtain ⟨hx, hb, hr, hml, hown, hlocks, hE, hA⟩ := hC
  have hts : ∀ w ∈ tbl, w.before [.ref (a 0)].toArray s = true := fun w hw => hE.w hw
  have hS : va_S A s.heap s.heap [] := va_S.rf
  have hl : lv_has ls 1 [(0, .ref (a 0))] := hl
  unfold f_X2_takeWord at hf
  refine lv_aload_n hx hb dX2_takeWord_0 rfl (lv_at hl 0 rfl) ?_
  refine lv_iconst (v := (1 : Int32)) hx hb dX2_takeWord_1 (by decide) ?_
  obtain ⟨t_1, et_1, hf⟩ := jn1_some hf
  refine va_put (D := E.1) (ci := 2) (v := .int (1 : Int32)) (ty := .int) (C := RX2) (T := TX2) (N := 6) hx hb hts inX2 tyX2 tyX2_ok nmX2 hown hE.2.1 hP hD hS 0 rfl rfl 4 (by decide) (hE.w tw_82) (fun _ h9 => h9) rfl (by decide +kernel) rfl rfl (Nat.le_of_ble_eq_true rfl) dX2_takeWord_2 (fun H locs hP hD hS => ?_)
  have hP : va_P E.1 vwCl (wX2 E a t_1) H := wst (by rw [et_1]; exact rfl) hP
  have hD : va_D A (wX2 E a t_1) := wsd (by rw [et_1]; exact rfl) hD
  have L_2 : ∀ (k_2 : Nat) (t_2 : TS), lp_X2_takeWord_5  k_2 t_2 = some t' → ∀ (H : Heap) (locs : List Loc) (ls : Array Slot), va_P E.1 vwCl (wX2 E a t_2) H → va_D A (wX2 E a t_2) → va_S A s.heap H locs → lv_has ls 1 [(0, .ref (a 0))] → W p l e (rmk 1 20) s m [.ref (a 0)].toArray below meth c H locs 0 0 (MQ below (Qct E A (wX2 E a t') none) [.ref (a 0)].toArray s 0 0 A) (F0 m 5 ls []) := by
    intro k_2
    induction k_2 with
    | zero =>
      intro t_2 hf
      rw [lp_X2_takeWord_5] at hf
      cases hf
    | succ k_2 ih_2 =>
      intro t_2 hf H locs ls hP hD hS hl
      rw [lp_X2_takeWord_5] at hf
      refine lv_aload_n hx hb dX2_takeWord_5 rfl (lv_at hl 0 rfl) ?_
      refine va_get (D := E.1) (ci := 2) (v := .int (g2_behind t_2)) (C := RX2) (T := TX2) (N := 6) hx hb hts inX2 hown hE.2.1 hP 0 rfl rfl 3 (by decide) (hE.w tw_81) (fun _ h9 => h9) rfl dX2_takeWord_6 ?_
      refine lv_aload_n hx hb dX2_takeWord_9 rfl (lv_at hl 0 rfl) ?_
      refine va_get (D := E.1) (ci := 2) (v := .int (g2_length t_2)) (C := RX2) (T := TX2) (N := 6) hx hb hts inX2 hown hE.2.1 hP 0 rfl rfl 1 (by decide) (hE.w tw_78) (fun _ h9 => h9) rfl dX2_takeWord_10 ?_
      refine lv_icmp_ge (tgt := 44) hx hb dX2_takeWord_13 (by decide) (fun c3 => ?_) (fun c3 => ?_)
      · have hf := ip c3 hf
        obtain rfl := so1 hf
        exact rt_v hx hb hr hlocks hP hD hS dX2_takeWord_44
      · have hf := im c3 hf
        refine lv_aload_n hx hb dX2_takeWord_16 rfl (lv_at hl 0 rfl) ?_
        refine va_get (D := E.1) (ci := 2) (v := .ref (a 1)) (C := RX2) (T := TX2) (N := 6) hx hb hts inX2 hown hE.2.1 hP 0 rfl rfl 0 (by decide) (hE.w tw_77) (fun _ h9 => h9) rfl dX2_takeWord_17 ?_
        refine lv_aload_n hx hb dX2_takeWord_20 rfl (lv_at hl 0 rfl) ?_
        refine va_get (D := E.1) (ci := 2) (v := .int (g2_behind t_2)) (C := RX2) (T := TX2) (N := 6) hx hb hts inX2 hown hE.2.1 hP 0 rfl rfl 3 (by decide) (hE.w tw_81) (fun _ h9 => h9) rfl dX2_takeWord_21 ?_
        obtain ⟨hg4, hf⟩ := gd_some hf
        refine va_bald hx hb hE.2.1 hP 1 2 rfl rfl hg4 dX2_takeWord_24 ?_
        obtain ⟨r6, hc5, hf⟩ := bd1_some hf
        refine cS (X := List.take 0 (wX2 E a t_2)) (Y := List.drop 0 (wX2 E a t_2)) (w := (wX2 E a t_2)) (w' := (wX2 E a t_2)) lk_X2_133 hx hb hml hown hE hA (c_X2_isLetter l E ((g2_bytes t_2) (g2_behind t_2).toNatClampNeg) r6 hc5) rfl rfl hP hD hS ⟨rfl, rfl, Nat.le_of_ble_eq_true rfl, Nat.le_of_ble_eq_true rfl⟩ hl.1 (As := [.int ((g2_bytes t_2) (g2_behind t_2).toNatClampNeg)]) (rest := []) rfl rfl (Nat.le_of_ble_eq_true rfl) ⟨Nat.zero_le _, Nat.zero_le _⟩ dX2_takeWord_25 (fun H locs hP hD hS => ?_)
        refine W.eq (g2 := F0 m 28 ls [.int (bI r6)]) rfl ?_
        refine lv_if_eq (tgt := 44) hx hb dX2_takeWord_28 (by decide) (fun c7 => ?_) (fun c7 => ?_)
        · have hf := ip c7 hf
          obtain rfl := so1 hf
          exact rt_v hx hb hr hlocks hP hD hS dX2_takeWord_44
        · have hf := im c7 hf
          refine lv_aload_n hx hb dX2_takeWord_31 rfl (lv_at hl 0 rfl) ?_
          refine lv_dup hx hb dX2_takeWord_32 rfl ?_
          refine va_get (D := E.1) (ci := 2) (v := .int (g2_behind t_2)) (C := RX2) (T := TX2) (N := 6) hx hb hts inX2 hown hE.2.1 hP 0 rfl rfl 3 (by decide) (hE.w tw_81) (fun _ h9 => h9) rfl dX2_takeWord_33 ?_
          refine lv_iconst (v := (1 : Int32)) hx hb dX2_takeWord_36 (by decide) ?_
          refine lv_iadd hx hb dX2_takeWord_37 ?_
          obtain ⟨t_8, et_8, hf⟩ := jn1_some hf
          refine va_put (D := E.1) (ci := 2) (v := .int ((g2_behind t_2) + (1 : Int32))) (ty := .int) (C := RX2) (T := TX2) (N := 6) hx hb hts inX2 tyX2 tyX2_ok nmX2 hown hE.2.1 hP hD hS 0 rfl rfl 3 (by decide) (hE.w tw_81) (fun _ h9 => h9) rfl (by decide +kernel) rfl rfl (Nat.le_of_ble_eq_true rfl) dX2_takeWord_38 (fun H locs hP hD hS => ?_)
          have hP : va_P E.1 vwCl (wX2 E a t_8) H := wst (by rw [et_8]; exact rfl) hP
          have hD : va_D A (wX2 E a t_8) := wsd (by rw [et_8]; exact rfl) hD
          refine lv_goto (tgt := 5) hx hb dX2_takeWord_41 (by decide) ?_
          exact ih_2 _ hf _ _ _ hP hD hS (lv_sub hl [0] rfl)
  exact L_2 _ _ hf _ _ _ hP hD hS (lv_sub hl [0] rfl)
def lp_X2_takeNumber_10  : Nat → (TS) → Option (TS)
  | 0, _ => none
  | k_3 + 1, t_3 => if (g2_length t_3) ≤ (g2_behind t_3) then some (t_3) else gd (g2_behind t_3) 120 (bd1 (f_X2_isDigit ((g2_bytes t_3) (g2_behind t_3).toNatClampNeg)) (fun r7 => if (bI r7) = 0 then some (t_3) else gd (g2_behind t_3) 120 (jn1 (s2_number t_3 (if (((g2_number t_3) * (10 : Int32)) + (((g2_bytes t_3) (g2_behind t_3).toNatClampNeg) - (48 : Int32))) < (1000 : Int32) then (((g2_number t_3) * (10 : Int32)) + (((g2_bytes t_3) (g2_behind t_3).toNatClampNeg) - (48 : Int32))) else (1000 : Int32))) (fun t_10 => jn1 (s2_behind t_10 ((g2_behind t_10) + (1 : Int32))) (fun t_11 => lp_X2_takeNumber_10  k_3 t_11)))))
def f_X2_takeNumber (t : TS) : Option (TS) := jn1 (s2_token t (2 : Int32)) (fun t_1 => jn1 (s2_number t_1 (0 : Int32)) (fun t_2 => lp_X2_takeNumber_10  FU t_2))
set_option maxHeartbeats 4000000 in
set_option maxRecDepth 100000 in
theorem c_X2_takeNumber (l : Launch) (E : EV) (a : Nat → Nat) (t : TS)  (t' : TS) (hf : f_X2_takeNumber t = some t') : Ct l E yX2_takeNumber cX2_takeNumber 1 (none) (rmk 1 20) [.ref (a 0)] (wX2 E a t) (wX2 E a t') none := by
  refine Ct.of (by decide) (Nat.le_of_ble_eq_true rfl) ?_
  intro p e s m below meth c A ls hC hP hD hl
  obtain ⟨hx, hb, hr, hml, hown, hlocks, hE, hA⟩ := hC
  have hts : ∀ w ∈ tbl, w.before [.ref (a 0)].toArray s = true := fun w hw => hE.w hw
  have hS : va_S A s.heap s.heap [] := va_S.rf
  have hl : lv_has ls 1 [(0, .ref (a 0))] := hl
  unfold f_X2_takeNumber at hf
  refine lv_aload_n hx hb dX2_takeNumber_0 rfl (lv_at hl 0 rfl) ?_
  refine lv_iconst (v := (2 : Int32)) hx hb dX2_takeNumber_1 (by decide) ?_
  obtain ⟨t_1, et_1, hf⟩ := jn1_some hf
  refine va_put (D := E.1) (ci := 2) (v := .int (2 : Int32)) (ty := .int) (C := RX2) (T := TX2) (N := 6) hx hb hts inX2 tyX2 tyX2_ok nmX2 hown hE.2.1 hP hD hS 0 rfl rfl 4 (by decide) (hE.w tw_82) (fun _ h9 => h9) rfl (by decide +kernel) rfl rfl (Nat.le_of_ble_eq_true rfl) dX2_takeNumber_2 (fun H locs hP hD hS => ?_)
  have hP : va_P E.1 vwCl (wX2 E a t_1) H := wst (by rw [et_1]; exact rfl) hP
  have hD : va_D A (wX2 E a t_1) := wsd (by rw [et_1]; exact rfl) hD
  refine lv_aload_n hx hb dX2_takeNumber_5 rfl (lv_at hl 0 rfl) ?_
  refine lv_iconst (v := (0 : Int32)) hx hb dX2_takeNumber_6 (by decide) ?_
  obtain ⟨t_2, et_2, hf⟩ := jn1_some hf
  refine va_put (D := E.1) (ci := 2) (v := .int (0 : Int32)) (ty := .int) (C := RX2) (T := TX2) (N := 6) hx hb hts inX2 tyX2 tyX2_ok nmX2 hown hE.2.1 hP hD hS 0 rfl rfl 5 (by decide) (hE.w tw_83) (fun _ h9 => h9) rfl (by decide +kernel) rfl rfl (Nat.le_of_ble_eq_true rfl) dX2_takeNumber_7 (fun H locs hP hD hS => ?_)
  have hP : va_P E.1 vwCl (wX2 E a t_2) H := wst (by rw [et_2]; exact rfl) hP
  have hD : va_D A (wX2 E a t_2) := wsd (by rw [et_2]; exact rfl) hD
  have L_3 : ∀ (k_3 : Nat) (t_3 : TS), lp_X2_takeNumber_10  k_3 t_3 = some t' → ∀ (H : Heap) (locs : List Loc) (ls : Array Slot), va_P E.1 vwCl (wX2 E a t_3) H → va_D A (wX2 E a t_3) → va_S A s.heap H locs → lv_has ls 1 [(0, .ref (a 0))] → W p l e (rmk 1 20) s m [.ref (a 0)].toArray below meth c H locs 0 0 (MQ below (Qct E A (wX2 E a t') none) [.ref (a 0)].toArray s 0 0 A) (F0 m 10 ls []) := by
    intro k_3
    induction k_3 with
    | zero =>
      intro t_3 hf
      rw [lp_X2_takeNumber_10] at hf
      cases hf
    | succ k_3 ih_3 =>
      intro t_3 hf H locs ls hP hD hS hl
      rw [lp_X2_takeNumber_10] at hf
      refine lv_aload_n hx hb dX2_takeNumber_10 rfl (lv_at hl 0 rfl) ?_
      refine va_get (D := E.1) (ci := 2) (v := .int (g2_behind t_3)) (C := RX2) (T := TX2) (N := 6) hx hb hts inX2 hown hE.2.1 hP 0 rfl rfl 3 (by decide) (hE.w tw_81) (fun _ h9 => h9) rfl dX2_takeNumber_11 ?_
      refine lv_aload_n hx hb dX2_takeNumber_14 rfl (lv_at hl 0 rfl) ?_
      refine va_get (D := E.1) (ci := 2) (v := .int (g2_length t_3)) (C := RX2) (T := TX2) (N := 6) hx hb hts inX2 hown hE.2.1 hP 0 rfl rfl 1 (by decide) (hE.w tw_78) (fun _ h9 => h9) rfl dX2_takeNumber_15 ?_
      refine lv_icmp_ge (tgt := 79) hx hb dX2_takeNumber_18 (by decide) (fun c4 => ?_) (fun c4 => ?_)
      · have hf := ip c4 hf
        obtain rfl := so1 hf
        exact rt_v hx hb hr hlocks hP hD hS dX2_takeNumber_79
      · have hf := im c4 hf
        refine lv_aload_n hx hb dX2_takeNumber_21 rfl (lv_at hl 0 rfl) ?_
        refine va_get (D := E.1) (ci := 2) (v := .ref (a 1)) (C := RX2) (T := TX2) (N := 6) hx hb hts inX2 hown hE.2.1 hP 0 rfl rfl 0 (by decide) (hE.w tw_77) (fun _ h9 => h9) rfl dX2_takeNumber_22 ?_
        refine lv_aload_n hx hb dX2_takeNumber_25 rfl (lv_at hl 0 rfl) ?_
        refine va_get (D := E.1) (ci := 2) (v := .int (g2_behind t_3)) (C := RX2) (T := TX2) (N := 6) hx hb hts inX2 hown hE.2.1 hP 0 rfl rfl 3 (by decide) (hE.w tw_81) (fun _ h9 => h9) rfl dX2_takeNumber_26 ?_
        obtain ⟨hg5, hf⟩ := gd_some hf
        refine va_bald hx hb hE.2.1 hP 1 2 rfl rfl hg5 dX2_takeNumber_29 ?_
        obtain ⟨r7, hc6, hf⟩ := bd1_some hf
        refine cS (X := List.take 0 (wX2 E a t_3)) (Y := List.drop 0 (wX2 E a t_3)) (w := (wX2 E a t_3)) (w' := (wX2 E a t_3)) lk_X2_140 hx hb hml hown hE hA (c_X2_isDigit l E ((g2_bytes t_3) (g2_behind t_3).toNatClampNeg) r7 hc6) rfl rfl hP hD hS ⟨rfl, rfl, Nat.le_of_ble_eq_true rfl, Nat.le_of_ble_eq_true rfl⟩ hl.1 (As := [.int ((g2_bytes t_3) (g2_behind t_3).toNatClampNeg)]) (rest := []) rfl rfl (Nat.le_of_ble_eq_true rfl) ⟨Nat.zero_le _, Nat.zero_le _⟩ dX2_takeNumber_30 (fun H locs hP hD hS => ?_)
        refine W.eq (g2 := F0 m 33 ls [.int (bI r7)]) rfl ?_
        refine lv_if_eq (tgt := 79) hx hb dX2_takeNumber_33 (by decide) (fun c8 => ?_) (fun c8 => ?_)
        · have hf := ip c8 hf
          obtain rfl := so1 hf
          exact rt_v hx hb hr hlocks hP hD hS dX2_takeNumber_79
        · have hf := im c8 hf
          refine lv_aload_n hx hb dX2_takeNumber_36 rfl (lv_at hl 0 rfl) ?_
          refine lv_sipush (v := (1000 : Int32)) hx hb dX2_takeNumber_37 (by decide) ?_
          refine lv_aload_n hx hb dX2_takeNumber_40 rfl (lv_at hl 0 rfl) ?_
          refine va_get (D := E.1) (ci := 2) (v := .int (g2_number t_3)) (C := RX2) (T := TX2) (N := 6) hx hb hts inX2 hown hE.2.1 hP 0 rfl rfl 5 (by decide) (hE.w tw_83) (fun _ h9 => h9) rfl dX2_takeNumber_41 ?_
          refine lv_bipush (v := (10 : Int32)) hx hb dX2_takeNumber_44 (by decide) ?_
          refine lv_imul hx hb dX2_takeNumber_46 ?_
          refine lv_aload_n hx hb dX2_takeNumber_47 rfl (lv_at hl 0 rfl) ?_
          refine va_get (D := E.1) (ci := 2) (v := .ref (a 1)) (C := RX2) (T := TX2) (N := 6) hx hb hts inX2 hown hE.2.1 hP 0 rfl rfl 0 (by decide) (hE.w tw_77) (fun _ h9 => h9) rfl dX2_takeNumber_48 ?_
          refine lv_aload_n hx hb dX2_takeNumber_51 rfl (lv_at hl 0 rfl) ?_
          refine va_get (D := E.1) (ci := 2) (v := .int (g2_behind t_3)) (C := RX2) (T := TX2) (N := 6) hx hb hts inX2 hown hE.2.1 hP 0 rfl rfl 3 (by decide) (hE.w tw_81) (fun _ h9 => h9) rfl dX2_takeNumber_52 ?_
          obtain ⟨hg9, hf⟩ := gd_some hf
          refine va_bald hx hb hE.2.1 hP 1 2 rfl rfl hg9 dX2_takeNumber_55 ?_
          refine lv_bipush (v := (48 : Int32)) hx hb dX2_takeNumber_56 (by decide) ?_
          refine lv_isub hx hb dX2_takeNumber_58 ?_
          refine lv_iadd hx hb dX2_takeNumber_59 ?_
          refine va_mmin hx hb (hml.trans hl.1.symm) hown (hE.w tw_405) (hE.w tw_279) (hE.w tw_6) (hE.w tw_280) (Nat.le_of_ble_eq_true rfl) (Nat.le_of_ble_eq_true rfl) (Nat.zero_le _) (Nat.zero_le _) dX2_takeNumber_60 ?_
          obtain ⟨t_10, et_10, hf⟩ := jn1_some hf
          refine va_put (D := E.1) (ci := 2) (v := .int (if (((g2_number t_3) * (10 : Int32)) + (((g2_bytes t_3) (g2_behind t_3).toNatClampNeg) - (48 : Int32))) < (1000 : Int32) then (((g2_number t_3) * (10 : Int32)) + (((g2_bytes t_3) (g2_behind t_3).toNatClampNeg) - (48 : Int32))) else (1000 : Int32))) (ty := .int) (C := RX2) (T := TX2) (N := 6) hx hb hts inX2 tyX2 tyX2_ok nmX2 hown hE.2.1 hP hD hS 0 rfl rfl 5 (by decide) (hE.w tw_83) (fun _ h9 => h9) rfl (by decide +kernel) rfl rfl (Nat.le_of_ble_eq_true rfl) dX2_takeNumber_63 (fun H locs hP hD hS => ?_)
          have hP : va_P E.1 vwCl (wX2 E a t_10) H := wst (by rw [et_10]; exact rfl) hP
          have hD : va_D A (wX2 E a t_10) := wsd (by rw [et_10]; exact rfl) hD
          refine lv_aload_n hx hb dX2_takeNumber_66 rfl (lv_at hl 0 rfl) ?_
          refine lv_dup hx hb dX2_takeNumber_67 rfl ?_
          refine va_get (D := E.1) (ci := 2) (v := .int (g2_behind t_10)) (C := RX2) (T := TX2) (N := 6) hx hb hts inX2 hown hE.2.1 hP 0 rfl rfl 3 (by decide) (hE.w tw_81) (fun _ h9 => h9) rfl dX2_takeNumber_68 ?_
          refine lv_iconst (v := (1 : Int32)) hx hb dX2_takeNumber_71 (by decide) ?_
          refine lv_iadd hx hb dX2_takeNumber_72 ?_
          obtain ⟨t_11, et_11, hf⟩ := jn1_some hf
          refine va_put (D := E.1) (ci := 2) (v := .int ((g2_behind t_10) + (1 : Int32))) (ty := .int) (C := RX2) (T := TX2) (N := 6) hx hb hts inX2 tyX2 tyX2_ok nmX2 hown hE.2.1 hP hD hS 0 rfl rfl 3 (by decide) (hE.w tw_81) (fun _ h9 => h9) rfl (by decide +kernel) rfl rfl (Nat.le_of_ble_eq_true rfl) dX2_takeNumber_73 (fun H locs hP hD hS => ?_)
          have hP : va_P E.1 vwCl (wX2 E a t_11) H := wst (by rw [et_11]; exact rfl) hP
          have hD : va_D A (wX2 E a t_11) := wsd (by rw [et_11]; exact rfl) hD
          refine lv_goto (tgt := 10) hx hb dX2_takeNumber_76 (by decide) ?_
          exact ih_3 _ hf _ _ _ hP hD hS (lv_sub hl [0] rfl)
  exact L_3 _ _ hf _ _ _ hP hD hS (lv_sub hl [0] rfl)
def lp_X2_take_8  : Nat → (TS) → Option (TS)
  | 0, _ => none
  | k_2 + 1, t_2 => if (g2_length t_2) ≤ (g2_first t_2) then jn1 (s2_behind t_2 (g2_first t_2)) (fun t_4 => if (g2_first t_4) < (g2_length t_4) then gd (g2_first t_4) 120 (bd1 (f_X2_isLetter ((g2_bytes t_4) (g2_first t_4).toNatClampNeg)) (fun r8 => if (bI r8) = 0 then gd (g2_first t_4) 120 (bd1 (f_X2_isDigit ((g2_bytes t_4) (g2_first t_4).toNatClampNeg)) (fun r12 => if (bI r12) = 0 then gd (g2_first t_4) 120 (jn1 (if ((g2_bytes t_4) (g2_first t_4).toNatClampNeg) = (59 : Int32) then ((3 : Int32)) else ((4 : Int32))) (fun x16 => jn1 (s2_token t_4 x16) (fun t_19 => jn1 (s2_behind t_19 ((g2_behind t_19) + (1 : Int32))) (fun t_20 => some (t_20))))) else bd1 (f_X2_takeNumber t_4) (fun t22 => some (t22)))) else bd1 (f_X2_takeWord t_4) (fun t24 => some (t24)))) else jn1 (s2_token t_4 (0 : Int32)) (fun t_25 => some (t_25))) else gd (g2_first t_2) 120 (if ((g2_bytes t_2) (g2_first t_2).toNatClampNeg) = (32 : Int32) then jn1 (s2_first t_2 ((g2_first t_2) + (1 : Int32))) (fun t_50 => lp_X2_take_8  k_2 t_50) else jn1 (s2_behind t_2 (g2_first t_2)) (fun t_28 => if (g2_first t_28) < (g2_length t_28) then gd (g2_first t_28) 120 (bd1 (f_X2_isLetter ((g2_bytes t_28) (g2_first t_28).toNatClampNeg)) (fun r32 => if (bI r32) = 0 then gd (g2_first t_28) 120 (bd1 (f_X2_isDigit ((g2_bytes t_28) (g2_first t_28).toNatClampNeg)) (fun r36 => if (bI r36) = 0 then gd (g2_first t_28) 120 (jn1 (if ((g2_bytes t_28) (g2_first t_28).toNatClampNeg) = (59 : Int32) then ((3 : Int32)) else ((4 : Int32))) (fun x40 => jn1 (s2_token t_28 x40) (fun t_43 => jn1 (s2_behind t_43 ((g2_behind t_43) + (1 : Int32))) (fun t_44 => some (t_44))))) else bd1 (f_X2_takeNumber t_28) (fun t46 => some (t46)))) else bd1 (f_X2_takeWord t_28) (fun t48 => some (t48)))) else jn1 (s2_token t_28 (0 : Int32)) (fun t_49 => some (t_49))))
def f_X2_take (t : TS) : Option (TS) := jn1 (s2_first t (g2_behind t)) (fun t_1 => lp_X2_take_8  FU t_1)
set_option maxHeartbeats 4000000 in
set_option maxRecDepth 100000 in
theorem c_X2_take (l : Launch) (E : EV) (a : Nat → Nat) (t : TS)  (t' : TS) (hf : f_X2_take t = some t') : Ct l E yX2_take cX2_take 1 (none) (rmk 2 40) [.ref (a 0)] (wX2 E a t) (wX2 E a t') none := by
  refine Ct.of (by decide) (Nat.le_of_ble_eq_true rfl) ?_
  intro p e s m below meth c A ls hC hP hD hl
  obtain ⟨hx, hb, hr, hml, hown, hlocks, hE, hA⟩ := hC
  have hts : ∀ w ∈ tbl, w.before [.ref (a 0)].toArray s = true := fun w hw => hE.w hw
  have hS : va_S A s.heap s.heap [] := va_S.rf
  have hl : lv_has ls 1 [(0, .ref (a 0))] := hl
  unfold f_X2_take at hf
  refine lv_aload_n hx hb dX2_take_0 rfl (lv_at hl 0 rfl) ?_
  refine lv_aload_n hx hb dX2_take_1 rfl (lv_at hl 0 rfl) ?_
  refine va_get (D := E.1) (ci := 2) (v := .int (g2_behind t)) (C := RX2) (T := TX2) (N := 6) hx hb hts inX2 hown hE.2.1 hP 0 rfl rfl 3 (by decide) (hE.w tw_81) (fun _ h9 => h9) rfl dX2_take_2 ?_
  obtain ⟨t_1, et_1, hf⟩ := jn1_some hf
  refine va_put (D := E.1) (ci := 2) (v := .int (g2_behind t)) (ty := .int) (C := RX2) (T := TX2) (N := 6) hx hb hts inX2 tyX2 tyX2_ok nmX2 hown hE.2.1 hP hD hS 0 rfl rfl 2 (by decide) (hE.w tw_80) (fun _ h9 => h9) rfl (by decide +kernel) rfl rfl (Nat.le_of_ble_eq_true rfl) dX2_take_5 (fun H locs hP hD hS => ?_)
  have hP : va_P E.1 vwCl (wX2 E a t_1) H := wst (by rw [et_1]; exact rfl) hP
  have hD : va_D A (wX2 E a t_1) := wsd (by rw [et_1]; exact rfl) hD
  have L_2 : ∀ (k_2 : Nat) (t_2 : TS), lp_X2_take_8  k_2 t_2 = some t' → ∀ (H : Heap) (locs : List Loc) (ls : Array Slot), va_P E.1 vwCl (wX2 E a t_2) H → va_D A (wX2 E a t_2) → va_S A s.heap H locs → lv_has ls 1 [(0, .ref (a 0))] → W p l e (rmk 2 40) s m [.ref (a 0)].toArray below meth c H locs 0 0 (MQ below (Qct E A (wX2 E a t') none) [.ref (a 0)].toArray s 0 0 A) (F0 m 8 ls []) := by
    intro k_2
    induction k_2 with
    | zero =>
      intro t_2 hf
      rw [lp_X2_take_8] at hf
      cases hf
    | succ k_2 ih_2 =>
      intro t_2 hf H locs ls hP hD hS hl
      rw [lp_X2_take_8] at hf
      refine lv_aload_n hx hb dX2_take_8 rfl (lv_at hl 0 rfl) ?_
      refine va_get (D := E.1) (ci := 2) (v := .int (g2_first t_2)) (C := RX2) (T := TX2) (N := 6) hx hb hts inX2 hown hE.2.1 hP 0 rfl rfl 2 (by decide) (hE.w tw_80) (fun _ h9 => h9) rfl dX2_take_9 ?_
      refine lv_aload_n hx hb dX2_take_12 rfl (lv_at hl 0 rfl) ?_
      refine va_get (D := E.1) (ci := 2) (v := .int (g2_length t_2)) (C := RX2) (T := TX2) (N := 6) hx hb hts inX2 hown hE.2.1 hP 0 rfl rfl 1 (by decide) (hE.w tw_78) (fun _ h9 => h9) rfl dX2_take_13 ?_
      refine lv_icmp_ge (tgt := 46) hx hb dX2_take_16 (by decide) (fun c3 => ?_) (fun c3 => ?_)
      · have hf := ip c3 hf
        refine lv_aload_n hx hb dX2_take_46 rfl (lv_at hl 0 rfl) ?_
        refine lv_aload_n hx hb dX2_take_47 rfl (lv_at hl 0 rfl) ?_
        refine va_get (D := E.1) (ci := 2) (v := .int (g2_first t_2)) (C := RX2) (T := TX2) (N := 6) hx hb hts inX2 hown hE.2.1 hP 0 rfl rfl 2 (by decide) (hE.w tw_80) (fun _ h9 => h9) rfl dX2_take_48 ?_
        obtain ⟨t_4, et_4, hf⟩ := jn1_some hf
        refine va_put (D := E.1) (ci := 2) (v := .int (g2_first t_2)) (ty := .int) (C := RX2) (T := TX2) (N := 6) hx hb hts inX2 tyX2 tyX2_ok nmX2 hown hE.2.1 hP hD hS 0 rfl rfl 3 (by decide) (hE.w tw_81) (fun _ h9 => h9) rfl (by decide +kernel) rfl rfl (Nat.le_of_ble_eq_true rfl) dX2_take_51 (fun H locs hP hD hS => ?_)
        have hP : va_P E.1 vwCl (wX2 E a t_4) H := wst (by rw [et_4]; exact rfl) hP
        have hD : va_D A (wX2 E a t_4) := wsd (by rw [et_4]; exact rfl) hD
        refine lv_aload_n hx hb dX2_take_54 rfl (lv_at hl 0 rfl) ?_
        refine va_get (D := E.1) (ci := 2) (v := .int (g2_first t_4)) (C := RX2) (T := TX2) (N := 6) hx hb hts inX2 hown hE.2.1 hP 0 rfl rfl 2 (by decide) (hE.w tw_80) (fun _ h9 => h9) rfl dX2_take_55 ?_
        refine lv_aload_n hx hb dX2_take_58 rfl (lv_at hl 0 rfl) ?_
        refine va_get (D := E.1) (ci := 2) (v := .int (g2_length t_4)) (C := RX2) (T := TX2) (N := 6) hx hb hts inX2 hown hE.2.1 hP 0 rfl rfl 1 (by decide) (hE.w tw_78) (fun _ h9 => h9) rfl dX2_take_59 ?_
        refine lv_icmp_lt (tgt := 73) hx hb dX2_take_62 (by decide) (fun c5 => ?_) (fun c5 => ?_)
        · have hf := ip c5 hf
          refine lv_aload_n hx hb dX2_take_73 rfl (lv_at hl 0 rfl) ?_
          refine va_get (D := E.1) (ci := 2) (v := .ref (a 1)) (C := RX2) (T := TX2) (N := 6) hx hb hts inX2 hown hE.2.1 hP 0 rfl rfl 0 (by decide) (hE.w tw_77) (fun _ h9 => h9) rfl dX2_take_74 ?_
          refine lv_aload_n hx hb dX2_take_77 rfl (lv_at hl 0 rfl) ?_
          refine va_get (D := E.1) (ci := 2) (v := .int (g2_first t_4)) (C := RX2) (T := TX2) (N := 6) hx hb hts inX2 hown hE.2.1 hP 0 rfl rfl 2 (by decide) (hE.w tw_80) (fun _ h9 => h9) rfl dX2_take_78 ?_
          obtain ⟨hg6, hf⟩ := gd_some hf
          refine va_bald hx hb hE.2.1 hP 1 2 rfl rfl hg6 dX2_take_81 ?_
          obtain ⟨r8, hc7, hf⟩ := bd1_some hf
          refine cS (X := List.take 0 (wX2 E a t_4)) (Y := List.drop 0 (wX2 E a t_4)) (w := (wX2 E a t_4)) (w' := (wX2 E a t_4)) lk_X2_133 hx hb hml hown hE hA (c_X2_isLetter l E ((g2_bytes t_4) (g2_first t_4).toNatClampNeg) r8 hc7) rfl rfl hP hD hS ⟨rfl, rfl, Nat.le_of_ble_eq_true rfl, Nat.le_of_ble_eq_true rfl⟩ hl.1 (As := [.int ((g2_bytes t_4) (g2_first t_4).toNatClampNeg)]) (rest := []) rfl rfl (Nat.le_of_ble_eq_true rfl) ⟨Nat.zero_le _, Nat.zero_le _⟩ dX2_take_82 (fun H locs hP hD hS => ?_)
          refine W.eq (g2 := F0 m 85 ls [.int (bI r8)]) rfl ?_
          refine lv_if_eq (tgt := 95) hx hb dX2_take_85 (by decide) (fun c9 => ?_) (fun c9 => ?_)
          · have hf := ip c9 hf
            refine lv_aload_n hx hb dX2_take_95 rfl (lv_at hl 0 rfl) ?_
            refine va_get (D := E.1) (ci := 2) (v := .ref (a 1)) (C := RX2) (T := TX2) (N := 6) hx hb hts inX2 hown hE.2.1 hP 0 rfl rfl 0 (by decide) (hE.w tw_77) (fun _ h9 => h9) rfl dX2_take_96 ?_
            refine lv_aload_n hx hb dX2_take_99 rfl (lv_at hl 0 rfl) ?_
            refine va_get (D := E.1) (ci := 2) (v := .int (g2_first t_4)) (C := RX2) (T := TX2) (N := 6) hx hb hts inX2 hown hE.2.1 hP 0 rfl rfl 2 (by decide) (hE.w tw_80) (fun _ h9 => h9) rfl dX2_take_100 ?_
            obtain ⟨hg10, hf⟩ := gd_some hf
            refine va_bald hx hb hE.2.1 hP 1 2 rfl rfl hg10 dX2_take_103 ?_
            obtain ⟨r12, hc11, hf⟩ := bd1_some hf
            refine cS (X := List.take 0 (wX2 E a t_4)) (Y := List.drop 0 (wX2 E a t_4)) (w := (wX2 E a t_4)) (w' := (wX2 E a t_4)) lk_X2_140 hx hb hml hown hE hA (c_X2_isDigit l E ((g2_bytes t_4) (g2_first t_4).toNatClampNeg) r12 hc11) rfl rfl hP hD hS ⟨rfl, rfl, Nat.le_of_ble_eq_true rfl, Nat.le_of_ble_eq_true rfl⟩ hl.1 (As := [.int ((g2_bytes t_4) (g2_first t_4).toNatClampNeg)]) (rest := []) rfl rfl (Nat.le_of_ble_eq_true rfl) ⟨Nat.zero_le _, Nat.zero_le _⟩ dX2_take_104 (fun H locs hP hD hS => ?_)
            refine W.eq (g2 := F0 m 107 ls [.int (bI r12)]) rfl ?_
            refine lv_if_eq (tgt := 117) hx hb dX2_take_107 (by decide) (fun c13 => ?_) (fun c13 => ?_)
            · have hf := ip c13 hf
              refine lv_aload_n hx hb dX2_take_117 rfl (lv_at hl 0 rfl) ?_
              refine lv_aload_n hx hb dX2_take_118 rfl (lv_at hl 0 rfl) ?_
              refine va_get (D := E.1) (ci := 2) (v := .ref (a 1)) (C := RX2) (T := TX2) (N := 6) hx hb hts inX2 hown hE.2.1 hP 0 rfl rfl 0 (by decide) (hE.w tw_77) (fun _ h9 => h9) rfl dX2_take_119 ?_
              refine lv_aload_n hx hb dX2_take_122 rfl (lv_at hl 0 rfl) ?_
              refine va_get (D := E.1) (ci := 2) (v := .int (g2_first t_4)) (C := RX2) (T := TX2) (N := 6) hx hb hts inX2 hown hE.2.1 hP 0 rfl rfl 2 (by decide) (hE.w tw_80) (fun _ h9 => h9) rfl dX2_take_123 ?_
              obtain ⟨hg14, hf⟩ := gd_some hf
              refine va_bald hx hb hE.2.1 hP 1 2 rfl rfl hg14 dX2_take_126 ?_
              refine lv_bipush (v := (59 : Int32)) hx hb dX2_take_127 (by decide) ?_
              obtain ⟨x16, hq18, hf⟩ := jn1_some hf
              have J17 : ∀ (H : Heap) (locs : List Loc) (ls : Array Slot), va_P E.1 vwCl (wX2 E a t_4) H → va_D A (wX2 E a t_4) → va_S A s.heap H locs → lv_has ls 1 [(0, .ref (a 0))] → W p l e (rmk 2 40) s m [.ref (a 0)].toArray below meth c H locs 0 0 (MQ below (Qct E A (wX2 E a t') none) [.ref (a 0)].toArray s 0 0 A) (F0 m 137 ls [.int x16, .ref (a 0)]) := by
                intro H locs ls hP hD hS hl
                obtain ⟨t_19, et_19, hf⟩ := jn1_some hf
                refine va_put (D := E.1) (ci := 2) (v := .int x16) (ty := .int) (C := RX2) (T := TX2) (N := 6) hx hb hts inX2 tyX2 tyX2_ok nmX2 hown hE.2.1 hP hD hS 0 rfl rfl 4 (by decide) (hE.w tw_82) (fun _ h9 => h9) rfl (by decide +kernel) rfl rfl (Nat.le_of_ble_eq_true rfl) dX2_take_137 (fun H locs hP hD hS => ?_)
                have hP : va_P E.1 vwCl (wX2 E a t_19) H := wst (by rw [et_19]; exact rfl) hP
                have hD : va_D A (wX2 E a t_19) := wsd (by rw [et_19]; exact rfl) hD
                refine lv_aload_n hx hb dX2_take_140 rfl (lv_at hl 0 rfl) ?_
                refine lv_dup hx hb dX2_take_141 rfl ?_
                refine va_get (D := E.1) (ci := 2) (v := .int (g2_behind t_19)) (C := RX2) (T := TX2) (N := 6) hx hb hts inX2 hown hE.2.1 hP 0 rfl rfl 3 (by decide) (hE.w tw_81) (fun _ h9 => h9) rfl dX2_take_142 ?_
                refine lv_iconst (v := (1 : Int32)) hx hb dX2_take_145 (by decide) ?_
                refine lv_iadd hx hb dX2_take_146 ?_
                obtain ⟨t_20, et_20, hf⟩ := jn1_some hf
                refine va_put (D := E.1) (ci := 2) (v := .int ((g2_behind t_19) + (1 : Int32))) (ty := .int) (C := RX2) (T := TX2) (N := 6) hx hb hts inX2 tyX2 tyX2_ok nmX2 hown hE.2.1 hP hD hS 0 rfl rfl 3 (by decide) (hE.w tw_81) (fun _ h9 => h9) rfl (by decide +kernel) rfl rfl (Nat.le_of_ble_eq_true rfl) dX2_take_147 (fun H locs hP hD hS => ?_)
                have hP : va_P E.1 vwCl (wX2 E a t_20) H := wst (by rw [et_20]; exact rfl) hP
                have hD : va_D A (wX2 E a t_20) := wsd (by rw [et_20]; exact rfl) hD
                obtain rfl := so1 hf
                exact rt_v hx hb hr hlocks hP hD hS dX2_take_150
              refine lv_icmp_ne (tgt := 136) hx hb dX2_take_129 (by decide) (fun c15 => ?_) (fun c15 => ?_)
              · have hq18 := ien c15 hq18
                refine lv_iconst (v := (4 : Int32)) hx hb dX2_take_136 (by decide) ?_
                obtain rfl := pj1 hq18
                exact J17 _ _ _ hP hD hS (lv_sub hl [0] rfl)
              · have hq18 := ie c15 hq18
                refine lv_iconst (v := (3 : Int32)) hx hb dX2_take_132 (by decide) ?_
                refine lv_goto (tgt := 137) hx hb dX2_take_133 (by decide) ?_
                obtain rfl := pj1 hq18
                exact J17 _ _ _ hP hD hS (lv_sub hl [0] rfl)
            · have hf := im c13 hf
              refine lv_aload_n hx hb dX2_take_110 rfl (lv_at hl 0 rfl) ?_
              obtain ⟨t22, hc21, hf⟩ := bd1_some hf
              refine cV (X := List.take 0 (wX2 E a t_4)) (Y := List.drop 2 (wX2 E a t_4)) (w := (wX2 E a t_4)) (w' := (wX2 E a t22)) (q0 := 0) lk_X2_143 hx hb hml hown hE hA (c_X2_takeNumber l E a t_4 t22 hc21) rfl rfl hP hD hS rfl rfl ⟨rfl, rfl, Nat.le_of_ble_eq_true rfl, Nat.le_of_ble_eq_true rfl⟩ hl.1 (As := []) (rest := []) rfl rfl (Nat.le_of_ble_eq_true rfl) ⟨Nat.zero_le _, Nat.zero_le _⟩ dX2_take_111 (fun H locs hP hD hS => ?_)
              refine W.eq (g2 := F0 m 114 ls []) rfl ?_
              refine lv_goto (tgt := 150) hx hb dX2_take_114 (by decide) ?_
              obtain rfl := so1 hf
              exact rt_v hx hb hr hlocks hP hD hS dX2_take_150
          · have hf := im c9 hf
            refine lv_aload_n hx hb dX2_take_88 rfl (lv_at hl 0 rfl) ?_
            obtain ⟨t24, hc23, hf⟩ := bd1_some hf
            refine cV (X := List.take 0 (wX2 E a t_4)) (Y := List.drop 2 (wX2 E a t_4)) (w := (wX2 E a t_4)) (w' := (wX2 E a t24)) (q0 := 0) lk_X2_137 hx hb hml hown hE hA (c_X2_takeWord l E a t_4 t24 hc23) rfl rfl hP hD hS rfl rfl ⟨rfl, rfl, Nat.le_of_ble_eq_true rfl, Nat.le_of_ble_eq_true rfl⟩ hl.1 (As := []) (rest := []) rfl rfl (Nat.le_of_ble_eq_true rfl) ⟨Nat.zero_le _, Nat.zero_le _⟩ dX2_take_89 (fun H locs hP hD hS => ?_)
            refine W.eq (g2 := F0 m 92 ls []) rfl ?_
            refine lv_goto (tgt := 150) hx hb dX2_take_92 (by decide) ?_
            obtain rfl := so1 hf
            exact rt_v hx hb hr hlocks hP hD hS dX2_take_150
        · have hf := im c5 hf
          refine lv_aload_n hx hb dX2_take_65 rfl (lv_at hl 0 rfl) ?_
          refine lv_iconst (v := (0 : Int32)) hx hb dX2_take_66 (by decide) ?_
          obtain ⟨t_25, et_25, hf⟩ := jn1_some hf
          refine va_put (D := E.1) (ci := 2) (v := .int (0 : Int32)) (ty := .int) (C := RX2) (T := TX2) (N := 6) hx hb hts inX2 tyX2 tyX2_ok nmX2 hown hE.2.1 hP hD hS 0 rfl rfl 4 (by decide) (hE.w tw_82) (fun _ h9 => h9) rfl (by decide +kernel) rfl rfl (Nat.le_of_ble_eq_true rfl) dX2_take_67 (fun H locs hP hD hS => ?_)
          have hP : va_P E.1 vwCl (wX2 E a t_25) H := wst (by rw [et_25]; exact rfl) hP
          have hD : va_D A (wX2 E a t_25) := wsd (by rw [et_25]; exact rfl) hD
          refine lv_goto (tgt := 150) hx hb dX2_take_70 (by decide) ?_
          obtain rfl := so1 hf
          exact rt_v hx hb hr hlocks hP hD hS dX2_take_150
      · have hf := im c3 hf
        refine lv_aload_n hx hb dX2_take_19 rfl (lv_at hl 0 rfl) ?_
        refine va_get (D := E.1) (ci := 2) (v := .ref (a 1)) (C := RX2) (T := TX2) (N := 6) hx hb hts inX2 hown hE.2.1 hP 0 rfl rfl 0 (by decide) (hE.w tw_77) (fun _ h9 => h9) rfl dX2_take_20 ?_
        refine lv_aload_n hx hb dX2_take_23 rfl (lv_at hl 0 rfl) ?_
        refine va_get (D := E.1) (ci := 2) (v := .int (g2_first t_2)) (C := RX2) (T := TX2) (N := 6) hx hb hts inX2 hown hE.2.1 hP 0 rfl rfl 2 (by decide) (hE.w tw_80) (fun _ h9 => h9) rfl dX2_take_24 ?_
        obtain ⟨hg26, hf⟩ := gd_some hf
        refine va_bald hx hb hE.2.1 hP 1 2 rfl rfl hg26 dX2_take_27 ?_
        refine lv_bipush (v := (32 : Int32)) hx hb dX2_take_28 (by decide) ?_
        refine lv_icmp_ne (tgt := 46) hx hb dX2_take_30 (by decide) (fun c27 => ?_) (fun c27 => ?_)
        · have hf := im c27 hf
          refine lv_aload_n hx hb dX2_take_46 rfl (lv_at hl 0 rfl) ?_
          refine lv_aload_n hx hb dX2_take_47 rfl (lv_at hl 0 rfl) ?_
          refine va_get (D := E.1) (ci := 2) (v := .int (g2_first t_2)) (C := RX2) (T := TX2) (N := 6) hx hb hts inX2 hown hE.2.1 hP 0 rfl rfl 2 (by decide) (hE.w tw_80) (fun _ h9 => h9) rfl dX2_take_48 ?_
          obtain ⟨t_28, et_28, hf⟩ := jn1_some hf
          refine va_put (D := E.1) (ci := 2) (v := .int (g2_first t_2)) (ty := .int) (C := RX2) (T := TX2) (N := 6) hx hb hts inX2 tyX2 tyX2_ok nmX2 hown hE.2.1 hP hD hS 0 rfl rfl 3 (by decide) (hE.w tw_81) (fun _ h9 => h9) rfl (by decide +kernel) rfl rfl (Nat.le_of_ble_eq_true rfl) dX2_take_51 (fun H locs hP hD hS => ?_)
          have hP : va_P E.1 vwCl (wX2 E a t_28) H := wst (by rw [et_28]; exact rfl) hP
          have hD : va_D A (wX2 E a t_28) := wsd (by rw [et_28]; exact rfl) hD
          refine lv_aload_n hx hb dX2_take_54 rfl (lv_at hl 0 rfl) ?_
          refine va_get (D := E.1) (ci := 2) (v := .int (g2_first t_28)) (C := RX2) (T := TX2) (N := 6) hx hb hts inX2 hown hE.2.1 hP 0 rfl rfl 2 (by decide) (hE.w tw_80) (fun _ h9 => h9) rfl dX2_take_55 ?_
          refine lv_aload_n hx hb dX2_take_58 rfl (lv_at hl 0 rfl) ?_
          refine va_get (D := E.1) (ci := 2) (v := .int (g2_length t_28)) (C := RX2) (T := TX2) (N := 6) hx hb hts inX2 hown hE.2.1 hP 0 rfl rfl 1 (by decide) (hE.w tw_78) (fun _ h9 => h9) rfl dX2_take_59 ?_
          refine lv_icmp_lt (tgt := 73) hx hb dX2_take_62 (by decide) (fun c29 => ?_) (fun c29 => ?_)
          · have hf := ip c29 hf
            refine lv_aload_n hx hb dX2_take_73 rfl (lv_at hl 0 rfl) ?_
            refine va_get (D := E.1) (ci := 2) (v := .ref (a 1)) (C := RX2) (T := TX2) (N := 6) hx hb hts inX2 hown hE.2.1 hP 0 rfl rfl 0 (by decide) (hE.w tw_77) (fun _ h9 => h9) rfl dX2_take_74 ?_
            refine lv_aload_n hx hb dX2_take_77 rfl (lv_at hl 0 rfl) ?_
            refine va_get (D := E.1) (ci := 2) (v := .int (g2_first t_28)) (C := RX2) (T := TX2) (N := 6) hx hb hts inX2 hown hE.2.1 hP 0 rfl rfl 2 (by decide) (hE.w tw_80) (fun _ h9 => h9) rfl dX2_take_78 ?_
            obtain ⟨hg30, hf⟩ := gd_some hf
            refine va_bald hx hb hE.2.1 hP 1 2 rfl rfl hg30 dX2_take_81 ?_
            obtain ⟨r32, hc31, hf⟩ := bd1_some hf
            refine cS (X := List.take 0 (wX2 E a t_28)) (Y := List.drop 0 (wX2 E a t_28)) (w := (wX2 E a t_28)) (w' := (wX2 E a t_28)) lk_X2_133 hx hb hml hown hE hA (c_X2_isLetter l E ((g2_bytes t_28) (g2_first t_28).toNatClampNeg) r32 hc31) rfl rfl hP hD hS ⟨rfl, rfl, Nat.le_of_ble_eq_true rfl, Nat.le_of_ble_eq_true rfl⟩ hl.1 (As := [.int ((g2_bytes t_28) (g2_first t_28).toNatClampNeg)]) (rest := []) rfl rfl (Nat.le_of_ble_eq_true rfl) ⟨Nat.zero_le _, Nat.zero_le _⟩ dX2_take_82 (fun H locs hP hD hS => ?_)
            refine W.eq (g2 := F0 m 85 ls [.int (bI r32)]) rfl ?_
            refine lv_if_eq (tgt := 95) hx hb dX2_take_85 (by decide) (fun c33 => ?_) (fun c33 => ?_)
            · have hf := ip c33 hf
              refine lv_aload_n hx hb dX2_take_95 rfl (lv_at hl 0 rfl) ?_
              refine va_get (D := E.1) (ci := 2) (v := .ref (a 1)) (C := RX2) (T := TX2) (N := 6) hx hb hts inX2 hown hE.2.1 hP 0 rfl rfl 0 (by decide) (hE.w tw_77) (fun _ h9 => h9) rfl dX2_take_96 ?_
              refine lv_aload_n hx hb dX2_take_99 rfl (lv_at hl 0 rfl) ?_
              refine va_get (D := E.1) (ci := 2) (v := .int (g2_first t_28)) (C := RX2) (T := TX2) (N := 6) hx hb hts inX2 hown hE.2.1 hP 0 rfl rfl 2 (by decide) (hE.w tw_80) (fun _ h9 => h9) rfl dX2_take_100 ?_
              obtain ⟨hg34, hf⟩ := gd_some hf
              refine va_bald hx hb hE.2.1 hP 1 2 rfl rfl hg34 dX2_take_103 ?_
              obtain ⟨r36, hc35, hf⟩ := bd1_some hf
              refine cS (X := List.take 0 (wX2 E a t_28)) (Y := List.drop 0 (wX2 E a t_28)) (w := (wX2 E a t_28)) (w' := (wX2 E a t_28)) lk_X2_140 hx hb hml hown hE hA (c_X2_isDigit l E ((g2_bytes t_28) (g2_first t_28).toNatClampNeg) r36 hc35) rfl rfl hP hD hS ⟨rfl, rfl, Nat.le_of_ble_eq_true rfl, Nat.le_of_ble_eq_true rfl⟩ hl.1 (As := [.int ((g2_bytes t_28) (g2_first t_28).toNatClampNeg)]) (rest := []) rfl rfl (Nat.le_of_ble_eq_true rfl) ⟨Nat.zero_le _, Nat.zero_le _⟩ dX2_take_104 (fun H locs hP hD hS => ?_)
              refine W.eq (g2 := F0 m 107 ls [.int (bI r36)]) rfl ?_
              refine lv_if_eq (tgt := 117) hx hb dX2_take_107 (by decide) (fun c37 => ?_) (fun c37 => ?_)
              · have hf := ip c37 hf
                refine lv_aload_n hx hb dX2_take_117 rfl (lv_at hl 0 rfl) ?_
                refine lv_aload_n hx hb dX2_take_118 rfl (lv_at hl 0 rfl) ?_
                refine va_get (D := E.1) (ci := 2) (v := .ref (a 1)) (C := RX2) (T := TX2) (N := 6) hx hb hts inX2 hown hE.2.1 hP 0 rfl rfl 0 (by decide) (hE.w tw_77) (fun _ h9 => h9) rfl dX2_take_119 ?_
                refine lv_aload_n hx hb dX2_take_122 rfl (lv_at hl 0 rfl) ?_
                refine va_get (D := E.1) (ci := 2) (v := .int (g2_first t_28)) (C := RX2) (T := TX2) (N := 6) hx hb hts inX2 hown hE.2.1 hP 0 rfl rfl 2 (by decide) (hE.w tw_80) (fun _ h9 => h9) rfl dX2_take_123 ?_
                obtain ⟨hg38, hf⟩ := gd_some hf
                refine va_bald hx hb hE.2.1 hP 1 2 rfl rfl hg38 dX2_take_126 ?_
                refine lv_bipush (v := (59 : Int32)) hx hb dX2_take_127 (by decide) ?_
                obtain ⟨x40, hq42, hf⟩ := jn1_some hf
                have J41 : ∀ (H : Heap) (locs : List Loc) (ls : Array Slot), va_P E.1 vwCl (wX2 E a t_28) H → va_D A (wX2 E a t_28) → va_S A s.heap H locs → lv_has ls 1 [(0, .ref (a 0))] → W p l e (rmk 2 40) s m [.ref (a 0)].toArray below meth c H locs 0 0 (MQ below (Qct E A (wX2 E a t') none) [.ref (a 0)].toArray s 0 0 A) (F0 m 137 ls [.int x40, .ref (a 0)]) := by
                  intro H locs ls hP hD hS hl
                  obtain ⟨t_43, et_43, hf⟩ := jn1_some hf
                  refine va_put (D := E.1) (ci := 2) (v := .int x40) (ty := .int) (C := RX2) (T := TX2) (N := 6) hx hb hts inX2 tyX2 tyX2_ok nmX2 hown hE.2.1 hP hD hS 0 rfl rfl 4 (by decide) (hE.w tw_82) (fun _ h9 => h9) rfl (by decide +kernel) rfl rfl (Nat.le_of_ble_eq_true rfl) dX2_take_137 (fun H locs hP hD hS => ?_)
                  have hP : va_P E.1 vwCl (wX2 E a t_43) H := wst (by rw [et_43]; exact rfl) hP
                  have hD : va_D A (wX2 E a t_43) := wsd (by rw [et_43]; exact rfl) hD
                  refine lv_aload_n hx hb dX2_take_140 rfl (lv_at hl 0 rfl) ?_
                  refine lv_dup hx hb dX2_take_141 rfl ?_
                  refine va_get (D := E.1) (ci := 2) (v := .int (g2_behind t_43)) (C := RX2) (T := TX2) (N := 6) hx hb hts inX2 hown hE.2.1 hP 0 rfl rfl 3 (by decide) (hE.w tw_81) (fun _ h9 => h9) rfl dX2_take_142 ?_
                  refine lv_iconst (v := (1 : Int32)) hx hb dX2_take_145 (by decide) ?_
                  refine lv_iadd hx hb dX2_take_146 ?_
                  obtain ⟨t_44, et_44, hf⟩ := jn1_some hf
                  refine va_put (D := E.1) (ci := 2) (v := .int ((g2_behind t_43) + (1 : Int32))) (ty := .int) (C := RX2) (T := TX2) (N := 6) hx hb hts inX2 tyX2 tyX2_ok nmX2 hown hE.2.1 hP hD hS 0 rfl rfl 3 (by decide) (hE.w tw_81) (fun _ h9 => h9) rfl (by decide +kernel) rfl rfl (Nat.le_of_ble_eq_true rfl) dX2_take_147 (fun H locs hP hD hS => ?_)
                  have hP : va_P E.1 vwCl (wX2 E a t_44) H := wst (by rw [et_44]; exact rfl) hP
                  have hD : va_D A (wX2 E a t_44) := wsd (by rw [et_44]; exact rfl) hD
                  obtain rfl := so1 hf
                  exact rt_v hx hb hr hlocks hP hD hS dX2_take_150
                refine lv_icmp_ne (tgt := 136) hx hb dX2_take_129 (by decide) (fun c39 => ?_) (fun c39 => ?_)
                · have hq42 := ien c39 hq42
                  refine lv_iconst (v := (4 : Int32)) hx hb dX2_take_136 (by decide) ?_
                  obtain rfl := pj1 hq42
                  exact J41 _ _ _ hP hD hS (lv_sub hl [0] rfl)
                · have hq42 := ie c39 hq42
                  refine lv_iconst (v := (3 : Int32)) hx hb dX2_take_132 (by decide) ?_
                  refine lv_goto (tgt := 137) hx hb dX2_take_133 (by decide) ?_
                  obtain rfl := pj1 hq42
                  exact J41 _ _ _ hP hD hS (lv_sub hl [0] rfl)
              · have hf := im c37 hf
                refine lv_aload_n hx hb dX2_take_110 rfl (lv_at hl 0 rfl) ?_
                obtain ⟨t46, hc45, hf⟩ := bd1_some hf
                refine cV (X := List.take 0 (wX2 E a t_28)) (Y := List.drop 2 (wX2 E a t_28)) (w := (wX2 E a t_28)) (w' := (wX2 E a t46)) (q0 := 0) lk_X2_143 hx hb hml hown hE hA (c_X2_takeNumber l E a t_28 t46 hc45) rfl rfl hP hD hS rfl rfl ⟨rfl, rfl, Nat.le_of_ble_eq_true rfl, Nat.le_of_ble_eq_true rfl⟩ hl.1 (As := []) (rest := []) rfl rfl (Nat.le_of_ble_eq_true rfl) ⟨Nat.zero_le _, Nat.zero_le _⟩ dX2_take_111 (fun H locs hP hD hS => ?_)
                refine W.eq (g2 := F0 m 114 ls []) rfl ?_
                refine lv_goto (tgt := 150) hx hb dX2_take_114 (by decide) ?_
                obtain rfl := so1 hf
                exact rt_v hx hb hr hlocks hP hD hS dX2_take_150
            · have hf := im c33 hf
              refine lv_aload_n hx hb dX2_take_88 rfl (lv_at hl 0 rfl) ?_
              obtain ⟨t48, hc47, hf⟩ := bd1_some hf
              refine cV (X := List.take 0 (wX2 E a t_28)) (Y := List.drop 2 (wX2 E a t_28)) (w := (wX2 E a t_28)) (w' := (wX2 E a t48)) (q0 := 0) lk_X2_137 hx hb hml hown hE hA (c_X2_takeWord l E a t_28 t48 hc47) rfl rfl hP hD hS rfl rfl ⟨rfl, rfl, Nat.le_of_ble_eq_true rfl, Nat.le_of_ble_eq_true rfl⟩ hl.1 (As := []) (rest := []) rfl rfl (Nat.le_of_ble_eq_true rfl) ⟨Nat.zero_le _, Nat.zero_le _⟩ dX2_take_89 (fun H locs hP hD hS => ?_)
              refine W.eq (g2 := F0 m 92 ls []) rfl ?_
              refine lv_goto (tgt := 150) hx hb dX2_take_92 (by decide) ?_
              obtain rfl := so1 hf
              exact rt_v hx hb hr hlocks hP hD hS dX2_take_150
          · have hf := im c29 hf
            refine lv_aload_n hx hb dX2_take_65 rfl (lv_at hl 0 rfl) ?_
            refine lv_iconst (v := (0 : Int32)) hx hb dX2_take_66 (by decide) ?_
            obtain ⟨t_49, et_49, hf⟩ := jn1_some hf
            refine va_put (D := E.1) (ci := 2) (v := .int (0 : Int32)) (ty := .int) (C := RX2) (T := TX2) (N := 6) hx hb hts inX2 tyX2 tyX2_ok nmX2 hown hE.2.1 hP hD hS 0 rfl rfl 4 (by decide) (hE.w tw_82) (fun _ h9 => h9) rfl (by decide +kernel) rfl rfl (Nat.le_of_ble_eq_true rfl) dX2_take_67 (fun H locs hP hD hS => ?_)
            have hP : va_P E.1 vwCl (wX2 E a t_49) H := wst (by rw [et_49]; exact rfl) hP
            have hD : va_D A (wX2 E a t_49) := wsd (by rw [et_49]; exact rfl) hD
            refine lv_goto (tgt := 150) hx hb dX2_take_70 (by decide) ?_
            obtain rfl := so1 hf
            exact rt_v hx hb hr hlocks hP hD hS dX2_take_150
        · have hf := ip c27 hf
          refine lv_aload_n hx hb dX2_take_33 rfl (lv_at hl 0 rfl) ?_
          refine lv_dup hx hb dX2_take_34 rfl ?_
          refine va_get (D := E.1) (ci := 2) (v := .int (g2_first t_2)) (C := RX2) (T := TX2) (N := 6) hx hb hts inX2 hown hE.2.1 hP 0 rfl rfl 2 (by decide) (hE.w tw_80) (fun _ h9 => h9) rfl dX2_take_35 ?_
          refine lv_iconst (v := (1 : Int32)) hx hb dX2_take_38 (by decide) ?_
          refine lv_iadd hx hb dX2_take_39 ?_
          obtain ⟨t_50, et_50, hf⟩ := jn1_some hf
          refine va_put (D := E.1) (ci := 2) (v := .int ((g2_first t_2) + (1 : Int32))) (ty := .int) (C := RX2) (T := TX2) (N := 6) hx hb hts inX2 tyX2 tyX2_ok nmX2 hown hE.2.1 hP hD hS 0 rfl rfl 2 (by decide) (hE.w tw_80) (fun _ h9 => h9) rfl (by decide +kernel) rfl rfl (Nat.le_of_ble_eq_true rfl) dX2_take_40 (fun H locs hP hD hS => ?_)
          have hP : va_P E.1 vwCl (wX2 E a t_50) H := wst (by rw [et_50]; exact rfl) hP
          have hD : va_D A (wX2 E a t_50) := wsd (by rw [et_50]; exact rfl) hD
          refine lv_goto (tgt := 8) hx hb dX2_take_43 (by decide) ?_
          exact ih_2 _ hf _ _ _ hP hD hS (lv_sub hl [0] rfl)
  exact L_2 _ _ hf _ _ _ hP hD hS (lv_sub hl [0] rfl)
def f_X2_isNumberTo (t : TS) (p1 : Int32) : Option (Bool) := if (g2_token t) = (2 : Int32) then if p1 < (g2_number t) then some (false) else some (true) else some (false)
set_option maxHeartbeats 4000000 in
set_option maxRecDepth 100000 in
theorem c_X2_isNumberTo (l : Launch) (E : EV) (a : Nat → Nat) (t : TS) (p1 : Int32)  (r : Bool) (hf : f_X2_isNumberTo t p1 = some r) : Ct l E yX2_isNumberTo cX2_isNumberTo 2 ((Option.some FieldType.boolean)) (rmk 0 0) [.ref (a 0), .int p1] (wX2 E a t) (wX2 E a t) (some (.int (bI r))) := by
  refine Ct.of (by decide) (Nat.le_of_ble_eq_true rfl) ?_
  intro p e s m below meth c A ls hC hP hD hl
  obtain ⟨hx, hb, hr, hml, hown, hlocks, hE, hA⟩ := hC
  have hts : ∀ w ∈ tbl, w.before [.ref (a 0), .int p1].toArray s = true := fun w hw => hE.w hw
  have hS : va_S A s.heap s.heap [] := va_S.rf
  have hl : lv_has ls 2 [(0, .ref (a 0)), (1, .int p1)] := hl
  unfold f_X2_isNumberTo at hf
  refine lv_aload_n hx hb dX2_isNumberTo_0 rfl (lv_at hl 0 rfl) ?_
  refine va_get (D := E.1) (ci := 2) (v := .int (g2_token t)) (C := RX2) (T := TX2) (N := 6) hx hb hts inX2 hown hE.2.1 hP 0 rfl rfl 4 (by decide) (hE.w tw_82) (fun _ h9 => h9) rfl dX2_isNumberTo_1 ?_
  refine lv_iconst (v := (2 : Int32)) hx hb dX2_isNumberTo_4 (by decide) ?_
  refine lv_icmp_ne (tgt := 20) hx hb dX2_isNumberTo_5 (by decide) (fun c1 => ?_) (fun c1 => ?_)
  · have hf := im c1 hf
    refine lv_iconst (v := (0 : Int32)) hx hb dX2_isNumberTo_20 (by decide) ?_
    obtain rfl := so1 hf
    exact rt_z (bI_nar _) hx hb hr hlocks hP hD hS dX2_isNumberTo_21
  · have hf := ip c1 hf
    refine lv_aload_n hx hb dX2_isNumberTo_8 rfl (lv_at hl 0 rfl) ?_
    refine va_get (D := E.1) (ci := 2) (v := .int (g2_number t)) (C := RX2) (T := TX2) (N := 6) hx hb hts inX2 hown hE.2.1 hP 0 rfl rfl 5 (by decide) (hE.w tw_83) (fun _ h9 => h9) rfl dX2_isNumberTo_9 ?_
    refine lv_iload_n hx hb dX2_isNumberTo_12 rfl (lv_at hl 1 rfl) ?_
    refine lv_icmp_gt (tgt := 20) hx hb dX2_isNumberTo_13 (by decide) (fun c2 => ?_) (fun c2 => ?_)
    · have hf := ip c2 hf
      refine lv_iconst (v := (0 : Int32)) hx hb dX2_isNumberTo_20 (by decide) ?_
      obtain rfl := so1 hf
      exact rt_z (bI_nar _) hx hb hr hlocks hP hD hS dX2_isNumberTo_21
    · have hf := im c2 hf
      refine lv_iconst (v := (1 : Int32)) hx hb dX2_isNumberTo_16 (by decide) ?_
      refine lv_goto (tgt := 21) hx hb dX2_isNumberTo_17 (by decide) ?_
      obtain rfl := so1 hf
      exact rt_z (bI_nar _) hx hb hr hlocks hP hD hS dX2_isNumberTo_21
def lp_X2_isWord_28 (t : TS) (i : Nat) : Nat → (Int32) → Option (Bool)
  | 0, _ => none
  | k_3 + 1, v2_3 => if (nI (st_len.getD i 0)) ≤ v2_3 then some (true) else gd ((g2_first t) + v2_3) 120 (gd v2_3 (st_len.getD i 0) (if ((g2_bytes t) ((g2_first t) + v2_3).toNatClampNeg) = (st_ch i v2_3) then lp_X2_isWord_28 t i k_3 (v2_3 + (1 : Int32)) else some (false)))
def f_X2_isWord (t : TS) (i : Nat) : Option (Bool) := if (g2_token t) = (1 : Int32) then if ((g2_behind t) - (g2_first t)) = (nI (st_len.getD i 0)) then lp_X2_isWord_28 t i FU (0 : Int32) else some (false) else some (false)
set_option maxHeartbeats 4000000 in
set_option maxRecDepth 100000 in
theorem c_X2_isWord (l : Launch) (E : EV) (a : Nat → Nat) (t : TS) (i : Nat) (hi : i < 15) (r : Bool) (hf : f_X2_isWord t i = some r) : Ct l E yX2_isWord cX2_isWord 3 ((Option.some FieldType.boolean)) (rmk 4 85) [.ref (a 0), .ref (E.2.2.2.1 i)] (wX2 E a t) (wX2 E a t) (some (.int (bI r))) := by
  refine Ct.of (by decide) (Nat.le_of_ble_eq_true rfl) ?_
  intro p e s m below meth c A ls hC hP hD hl
  obtain ⟨hx, hb, hr, hml, hown, hlocks, hE, hA⟩ := hC
  have hts : ∀ w ∈ tbl, w.before [.ref (a 0), .ref (E.2.2.2.1 i)].toArray s = true := fun w hw => hE.w hw
  have hS : va_S A s.heap s.heap [] := va_S.rf
  have hl : lv_has ls 3 [(0, .ref (a 0)), (1, .ref (E.2.2.2.1 i))] := hl
  unfold f_X2_isWord at hf
  refine lv_aload_n hx hb dX2_isWord_0 rfl (lv_at hl 0 rfl) ?_
  refine va_get (D := E.1) (ci := 2) (v := .int (g2_token t)) (C := RX2) (T := TX2) (N := 6) hx hb hts inX2 hown hE.2.1 hP 0 rfl rfl 4 (by decide) (hE.w tw_82) (fun _ h9 => h9) rfl dX2_isWord_1 ?_
  refine lv_iconst (v := (1 : Int32)) hx hb dX2_isWord_4 (by decide) ?_
  refine lv_icmp_ne (tgt := 24) hx hb dX2_isWord_5 (by decide) (fun c1 => ?_) (fun c1 => ?_)
  · have hf := im c1 hf
    refine lv_iconst (v := (0 : Int32)) hx hb dX2_isWord_24 (by decide) ?_
    obtain rfl := so1 hf
    exact rt_z (bI_nar _) hx hb hr hlocks hP hD hS dX2_isWord_25
  · have hf := ip c1 hf
    refine lv_aload_n hx hb dX2_isWord_8 rfl (lv_at hl 0 rfl) ?_
    refine va_get (D := E.1) (ci := 2) (v := .int (g2_behind t)) (C := RX2) (T := TX2) (N := 6) hx hb hts inX2 hown hE.2.1 hP 0 rfl rfl 3 (by decide) (hE.w tw_81) (fun _ h9 => h9) rfl dX2_isWord_9 ?_
    refine lv_aload_n hx hb dX2_isWord_12 rfl (lv_at hl 0 rfl) ?_
    refine va_get (D := E.1) (ci := 2) (v := .int (g2_first t)) (C := RX2) (T := TX2) (N := 6) hx hb hts inX2 hown hE.2.1 hP 0 rfl rfl 2 (by decide) (hE.w tw_80) (fun _ h9 => h9) rfl dX2_isWord_13 ?_
    refine lv_isub hx hb dX2_isWord_16 ?_
    refine lv_aload_n hx hb dX2_isWord_17 rfl (lv_at hl 1 rfl) ?_
    refine cVs lk_X2_125 hx hb hml hown hE hA (c_len l E i hi) hi hP hD hS ⟨rfl, rfl, Nat.le_of_ble_eq_true rfl, Nat.le_of_ble_eq_true rfl⟩ hl.1 (As := []) (rest := [.int ((g2_behind t) - (g2_first t))]) rfl rfl (Nat.le_of_ble_eq_true rfl) ⟨Nat.zero_le _, Nat.zero_le _⟩ dX2_isWord_18 (fun H locs hP hD hS => ?_)
    refine W.eq (g2 := F0 m 21 ls [.int (nI (st_len.getD i 0)), .int ((g2_behind t) - (g2_first t))]) rfl ?_
    refine lv_icmp_eq (tgt := 26) hx hb dX2_isWord_21 (by decide) (fun c2 => ?_) (fun c2 => ?_)
    · have hf := ip c2 hf
      refine lv_iconst (v := (0 : Int32)) hx hb dX2_isWord_26 (by decide) ?_
      refine lv_istore_n (lv' := [(2, .int (0 : Int32)), (0, .ref (a 0)), (1, .ref (E.2.2.2.1 i))]) hx hb dX2_isWord_27 rfl hl (by decide) rfl (fun ls hl => ?_)
      have L_3 : ∀ (k_3 : Nat) (v2_3 : Int32), lp_X2_isWord_28 t i k_3 v2_3 = some r → ∀ (H : Heap) (locs : List Loc) (ls : Array Slot), va_P E.1 vwCl (wX2 E a t) H → va_D A (wX2 E a t) → va_S A s.heap H locs → lv_has ls 3 [(2, .int v2_3), (0, .ref (a 0)), (1, .ref (E.2.2.2.1 i))] → W p l e (rmk 4 85) s m [.ref (a 0), .ref (E.2.2.2.1 i)].toArray below meth c H locs 0 0 (MQ below (Qct E A (wX2 E a t) (some (.int (bI r)))) [.ref (a 0), .ref (E.2.2.2.1 i)].toArray s 0 0 A) (F0 m 28 ls []) := by
        intro k_3
        induction k_3 with
        | zero =>
          intro v2_3 hf
          rw [lp_X2_isWord_28] at hf
          cases hf
        | succ k_3 ih_3 =>
          intro v2_3 hf H locs ls hP hD hS hl
          rw [lp_X2_isWord_28] at hf
          refine lv_iload_n hx hb dX2_isWord_28 rfl (lv_at hl 0 rfl) ?_
          refine lv_aload_n hx hb dX2_isWord_29 rfl (lv_at hl 2 rfl) ?_
          refine cVs lk_X2_125 hx hb hml hown hE hA (c_len l E i hi) hi hP hD hS ⟨rfl, rfl, Nat.le_of_ble_eq_true rfl, Nat.le_of_ble_eq_true rfl⟩ hl.1 (As := []) (rest := [.int v2_3]) rfl rfl (Nat.le_of_ble_eq_true rfl) ⟨Nat.zero_le _, Nat.zero_le _⟩ dX2_isWord_30 (fun H locs hP hD hS => ?_)
          refine W.eq (g2 := F0 m 33 ls [.int (nI (st_len.getD i 0)), .int v2_3]) rfl ?_
          refine lv_icmp_ge (tgt := 63) hx hb dX2_isWord_33 (by decide) (fun c4 => ?_) (fun c4 => ?_)
          · have hf := ip c4 hf
            refine lv_iconst (v := (1 : Int32)) hx hb dX2_isWord_63 (by decide) ?_
            obtain rfl := so1 hf
            exact rt_z (bI_nar _) hx hb hr hlocks hP hD hS dX2_isWord_64
          · have hf := im c4 hf
            refine lv_aload_n hx hb dX2_isWord_36 rfl (lv_at hl 1 rfl) ?_
            refine va_get (D := E.1) (ci := 2) (v := .ref (a 1)) (C := RX2) (T := TX2) (N := 6) hx hb hts inX2 hown hE.2.1 hP 0 rfl rfl 0 (by decide) (hE.w tw_77) (fun _ h9 => h9) rfl dX2_isWord_37 ?_
            refine lv_aload_n hx hb dX2_isWord_40 rfl (lv_at hl 1 rfl) ?_
            refine va_get (D := E.1) (ci := 2) (v := .int (g2_first t)) (C := RX2) (T := TX2) (N := 6) hx hb hts inX2 hown hE.2.1 hP 0 rfl rfl 2 (by decide) (hE.w tw_80) (fun _ h9 => h9) rfl dX2_isWord_41 ?_
            refine lv_iload_n hx hb dX2_isWord_44 rfl (lv_at hl 0 rfl) ?_
            refine lv_iadd hx hb dX2_isWord_45 ?_
            obtain ⟨hg5, hf⟩ := gd_some hf
            refine va_bald hx hb hE.2.1 hP 1 2 rfl rfl hg5 dX2_isWord_46 ?_
            refine lv_aload_n hx hb dX2_isWord_47 rfl (lv_at hl 2 rfl) ?_
            refine lv_iload_n hx hb dX2_isWord_48 rfl (lv_at hl 0 rfl) ?_
            obtain ⟨hg6, hf⟩ := gd_some hf
            refine cVs lk_X2_129 hx hb hml hown hE hA (c_chr l E i hi v2_3 hg6) hi hP hD hS ⟨rfl, rfl, Nat.le_of_ble_eq_true rfl, Nat.le_of_ble_eq_true rfl⟩ hl.1 (As := [.int v2_3]) (rest := [.int ((g2_bytes t) ((g2_first t) + v2_3).toNatClampNeg)]) rfl rfl (Nat.le_of_ble_eq_true rfl) ⟨Nat.zero_le _, Nat.zero_le _⟩ dX2_isWord_49 (fun H locs hP hD hS => ?_)
            refine W.eq (g2 := F0 m 52 ls [.int (st_ch i v2_3), .int ((g2_bytes t) ((g2_first t) + v2_3).toNatClampNeg)]) rfl ?_
            refine lv_icmp_eq (tgt := 57) hx hb dX2_isWord_52 (by decide) (fun c7 => ?_) (fun c7 => ?_)
            · have hf := ip c7 hf
              refine lv_iinc (v := (v2_3 + (1 : Int32))) (lv' := [(2, .int (v2_3 + (1 : Int32))), (0, .ref (a 0)), (1, .ref (E.2.2.2.1 i))]) hx hb dX2_isWord_57 hl (k := 0) rfl rfl (by decide) rfl (fun ls hl => ?_)
              refine lv_goto (tgt := 28) hx hb dX2_isWord_60 (by decide) ?_
              exact ih_3 _ hf _ _ _ hP hD hS (lv_sub hl [0, 1, 2] rfl)
            · have hf := im c7 hf
              refine lv_iconst (v := (0 : Int32)) hx hb dX2_isWord_55 (by decide) ?_
              obtain rfl := so1 hf
              exact rt_z (bI_nar _) hx hb hr hlocks hP hD hS dX2_isWord_56
      exact L_3 _ _ hf _ _ _ hP hD hS (lv_sub hl [0, 1, 2] rfl)
    · have hf := im c2 hf
      refine lv_iconst (v := (0 : Int32)) hx hb dX2_isWord_24 (by decide) ?_
      obtain rfl := so1 hf
      exact rt_z (bI_nar _) hx hb hr hlocks hP hD hS dX2_isWord_25
def f_X2_nameOfKind (p1 : Int32) : Option (Nat) := if p1 = (1 : Int32) then some (8) else if p1 = (2 : Int32) then some (9) else if p1 = (3 : Int32) then some (10) else if p1 = (4 : Int32) then some (11) else if p1 = (5 : Int32) then some (12) else some (13)
set_option maxHeartbeats 4000000 in
set_option maxRecDepth 100000 in
theorem c_X2_nameOfKind (l : Launch) (E : EV)  (p1 : Int32)  (r : Nat) (hf : f_X2_nameOfKind p1 = some r) : Ct l E yX2_nameOfKind cX2_nameOfKind 1 ((Option.some (FieldType.object "java/lang/String"))) (rmk 0 0) [.int p1] ([] : va_W) ([] : va_W) (some (.ref (E.2.2.2.1 r))) := by
  refine Ct.of (by decide) (Nat.le_of_ble_eq_true rfl) ?_
  intro p e s m below meth c A ls hC hP hD hl
  obtain ⟨hx, hb, hr, hml, hown, hlocks, hE, hA⟩ := hC
  have hts : ∀ w ∈ tbl, w.before [.int p1].toArray s = true := fun w hw => hE.w hw
  have hS : va_S A s.heap s.heap [] := va_S.rf
  have hl : lv_has ls 1 [(0, .int p1)] := hl
  unfold f_X2_nameOfKind at hf
  refine lv_iload_n hx hb dX2_nameOfKind_0 rfl (lv_at hl 0 rfl) ?_
  by_cases c1 : p1 = (1 : Int32)
  · have hf := ip c1 hf
    refine lv_tableIn (off := 35) (tgt := 36) hx hb dX2_nameOfKind_1 (by rw [c1]; decide) (by rw [c1]; decide) (by rw [c1]; rfl) (by decide) ?_
    refine va_ldcS hx hb hown (hE.2.2.2.2.2.2.2 8 (by decide)) dX2_nameOfKind_36 ?_
    obtain rfl := so1 hf
    exact rt_a (Or.inl ⟨_, rfl⟩) hx hb hr hlocks hP hD hS dX2_nameOfKind_38
  have hf := im c1 hf
  by_cases c2 : p1 = (2 : Int32)
  · have hf := ip c2 hf
    refine lv_tableIn (off := 38) (tgt := 39) hx hb dX2_nameOfKind_1 (by rw [c2]; decide) (by rw [c2]; decide) (by rw [c2]; rfl) (by decide) ?_
    refine va_ldcS hx hb hown (hE.2.2.2.2.2.2.2 9 (by decide)) dX2_nameOfKind_39 ?_
    obtain rfl := so1 hf
    exact rt_a (Or.inl ⟨_, rfl⟩) hx hb hr hlocks hP hD hS dX2_nameOfKind_41
  have hf := im c2 hf
  by_cases c3 : p1 = (3 : Int32)
  · have hf := ip c3 hf
    refine lv_tableIn (off := 41) (tgt := 42) hx hb dX2_nameOfKind_1 (by rw [c3]; decide) (by rw [c3]; decide) (by rw [c3]; rfl) (by decide) ?_
    refine va_ldcS hx hb hown (hE.2.2.2.2.2.2.2 10 (by decide)) dX2_nameOfKind_42 ?_
    obtain rfl := so1 hf
    exact rt_a (Or.inl ⟨_, rfl⟩) hx hb hr hlocks hP hD hS dX2_nameOfKind_44
  have hf := im c3 hf
  by_cases c4 : p1 = (4 : Int32)
  · have hf := ip c4 hf
    refine lv_tableIn (off := 44) (tgt := 45) hx hb dX2_nameOfKind_1 (by rw [c4]; decide) (by rw [c4]; decide) (by rw [c4]; rfl) (by decide) ?_
    refine va_ldcS hx hb hown (hE.2.2.2.2.2.2.2 11 (by decide)) dX2_nameOfKind_45 ?_
    obtain rfl := so1 hf
    exact rt_a (Or.inl ⟨_, rfl⟩) hx hb hr hlocks hP hD hS dX2_nameOfKind_47
  have hf := im c4 hf
  by_cases c5 : p1 = (5 : Int32)
  · have hf := ip c5 hf
    refine lv_tableIn (off := 47) (tgt := 48) hx hb dX2_nameOfKind_1 (by rw [c5]; decide) (by rw [c5]; decide) (by rw [c5]; rfl) (by decide) ?_
    refine va_ldcS hx hb hown (hE.2.2.2.2.2.2.2 12 (by decide)) dX2_nameOfKind_48 ?_
    obtain rfl := so1 hf
    exact rt_a (Or.inl ⟨_, rfl⟩) hx hb hr hlocks hP hD hS dX2_nameOfKind_50
  have hf := im c5 hf
  refine lv_tableOut (tgt := 51) hx hb dX2_nameOfKind_1 (by have zc1 := lv_neT c1 (a := 1) (by decide); have zc2 := lv_neT c2 (a := 2) (by decide); have zc3 := lv_neT c3 (a := 3) (by decide); have zc4 := lv_neT c4 (a := 4) (by decide); have zc5 := lv_neT c5 (a := 5) (by decide); omega) (by decide) ?_
  refine va_ldcS hx hb hown (hE.2.2.2.2.2.2.2 13 (by decide)) dX2_nameOfKind_51 ?_
  obtain rfl := so1 hf
  exact rt_a (Or.inl ⟨_, rfl⟩) hx hb hr hlocks hP hD hS dX2_nameOfKind_53
theorem f_X2_nameOfKind_lt {p1 : Int32} {r : Nat} (h : f_X2_nameOfKind p1 = some r) : r < 15 := by
  unfold f_X2_nameOfKind at h
  repeat' split at h
  all_goals (obtain rfl := so1 h; decide)
def f_X2_nameOfCue (p1 : Int32) : Option (Nat) := if p1 = (1 : Int32) then some (1) else if p1 = (2 : Int32) then some (2) else if p1 = (3 : Int32) then some (3) else if p1 = (4 : Int32) then some (4) else some (5)
set_option maxHeartbeats 4000000 in
set_option maxRecDepth 100000 in
theorem c_X2_nameOfCue (l : Launch) (E : EV)  (p1 : Int32)  (r : Nat) (hf : f_X2_nameOfCue p1 = some r) : Ct l E yX2_nameOfCue cX2_nameOfCue 1 ((Option.some (FieldType.object "java/lang/String"))) (rmk 0 0) [.int p1] ([] : va_W) ([] : va_W) (some (.ref (E.2.2.2.1 r))) := by
  refine Ct.of (by decide) (Nat.le_of_ble_eq_true rfl) ?_
  intro p e s m below meth c A ls hC hP hD hl
  obtain ⟨hx, hb, hr, hml, hown, hlocks, hE, hA⟩ := hC
  have hts : ∀ w ∈ tbl, w.before [.int p1].toArray s = true := fun w hw => hE.w hw
  have hS : va_S A s.heap s.heap [] := va_S.rf
  have hl : lv_has ls 1 [(0, .int p1)] := hl
  unfold f_X2_nameOfCue at hf
  refine lv_iload_n hx hb dX2_nameOfCue_0 rfl (lv_at hl 0 rfl) ?_
  by_cases c1 : p1 = (1 : Int32)
  · have hf := ip c1 hf
    refine lv_tableIn (off := 31) (tgt := 32) hx hb dX2_nameOfCue_1 (by rw [c1]; decide) (by rw [c1]; decide) (by rw [c1]; rfl) (by decide) ?_
    refine va_ldcS hx hb hown (hE.2.2.2.2.2.2.2 1 (by decide)) dX2_nameOfCue_32 ?_
    obtain rfl := so1 hf
    exact rt_a (Or.inl ⟨_, rfl⟩) hx hb hr hlocks hP hD hS dX2_nameOfCue_34
  have hf := im c1 hf
  by_cases c2 : p1 = (2 : Int32)
  · have hf := ip c2 hf
    refine lv_tableIn (off := 34) (tgt := 35) hx hb dX2_nameOfCue_1 (by rw [c2]; decide) (by rw [c2]; decide) (by rw [c2]; rfl) (by decide) ?_
    refine va_ldcS hx hb hown (hE.2.2.2.2.2.2.2 2 (by decide)) dX2_nameOfCue_35 ?_
    obtain rfl := so1 hf
    exact rt_a (Or.inl ⟨_, rfl⟩) hx hb hr hlocks hP hD hS dX2_nameOfCue_37
  have hf := im c2 hf
  by_cases c3 : p1 = (3 : Int32)
  · have hf := ip c3 hf
    refine lv_tableIn (off := 37) (tgt := 38) hx hb dX2_nameOfCue_1 (by rw [c3]; decide) (by rw [c3]; decide) (by rw [c3]; rfl) (by decide) ?_
    refine va_ldcS hx hb hown (hE.2.2.2.2.2.2.2 3 (by decide)) dX2_nameOfCue_38 ?_
    obtain rfl := so1 hf
    exact rt_a (Or.inl ⟨_, rfl⟩) hx hb hr hlocks hP hD hS dX2_nameOfCue_40
  have hf := im c3 hf
  by_cases c4 : p1 = (4 : Int32)
  · have hf := ip c4 hf
    refine lv_tableIn (off := 40) (tgt := 41) hx hb dX2_nameOfCue_1 (by rw [c4]; decide) (by rw [c4]; decide) (by rw [c4]; rfl) (by decide) ?_
    refine va_ldcS hx hb hown (hE.2.2.2.2.2.2.2 4 (by decide)) dX2_nameOfCue_41 ?_
    obtain rfl := so1 hf
    exact rt_a (Or.inl ⟨_, rfl⟩) hx hb hr hlocks hP hD hS dX2_nameOfCue_43
  have hf := im c4 hf
  refine lv_tableOut (tgt := 44) hx hb dX2_nameOfCue_1 (by have zc1 := lv_neT c1 (a := 1) (by decide); have zc2 := lv_neT c2 (a := 2) (by decide); have zc3 := lv_neT c3 (a := 3) (by decide); have zc4 := lv_neT c4 (a := 4) (by decide); omega) (by decide) ?_
  refine va_ldcS hx hb hown (hE.2.2.2.2.2.2.2 5 (by decide)) dX2_nameOfCue_44 ?_
  obtain rfl := so1 hf
  exact rt_a (Or.inl ⟨_, rfl⟩) hx hb hr hlocks hP hD hS dX2_nameOfCue_46
theorem f_X2_nameOfCue_lt {p1 : Int32} {r : Nat} (h : f_X2_nameOfCue p1 = some r) : r < 15 := by
  unfold f_X2_nameOfCue at h
  repeat' split at h
  all_goals (obtain rfl := so1 h; decide)
def lp_X2_kindNamed_2 (t : TS) : Nat → (Int32) → Option (Int32)
  | 0, _ => none
  | k_1 + 1, v1_1 => if (6 : Int32) ≤ v1_1 then some ((-1 : Int32)) else bd1 (f_X2_nameOfKind v1_1) (fun r4 => bd1 (f_X2_isWord t r4) (fun r7 => if (bI r7) = 0 then lp_X2_kindNamed_2 t k_1 (v1_1 + (1 : Int32)) else some (v1_1)))
def f_X2_kindNamed (t : TS) : Option (Int32) := lp_X2_kindNamed_2 t FU (0 : Int32)
set_option maxHeartbeats 4000000 in
set_option maxRecDepth 100000 in
theorem c_X2_kindNamed (l : Launch) (E : EV) (a : Nat → Nat) (t : TS)  (r : Int32) (hf : f_X2_kindNamed t = some r) : Ct l E yX2_kindNamed cX2_kindNamed 2 ((Option.some FieldType.int)) (rmk 5 107) [.ref (a 0)] (wX2 E a t) (wX2 E a t) (some (.int r)) := by
  refine Ct.of (by decide) (Nat.le_of_ble_eq_true rfl) ?_
  intro p e s m below meth c A ls hC hP hD hl
  obtain ⟨hx, hb, hr, hml, hown, hlocks, hE, hA⟩ := hC
  have hts : ∀ w ∈ tbl, w.before [.ref (a 0)].toArray s = true := fun w hw => hE.w hw
  have hS : va_S A s.heap s.heap [] := va_S.rf
  have hl : lv_has ls 2 [(0, .ref (a 0))] := hl
  unfold f_X2_kindNamed at hf
  refine lv_iconst (v := (0 : Int32)) hx hb dX2_kindNamed_0 (by decide) ?_
  refine lv_istore_n (lv' := [(1, .int (0 : Int32)), (0, .ref (a 0))]) hx hb dX2_kindNamed_1 rfl hl (by decide) rfl (fun ls hl => ?_)
  have L_1 : ∀ (k_1 : Nat) (v1_1 : Int32), lp_X2_kindNamed_2 t k_1 v1_1 = some r → ∀ (H : Heap) (locs : List Loc) (ls : Array Slot), va_P E.1 vwCl (wX2 E a t) H → va_D A (wX2 E a t) → va_S A s.heap H locs → lv_has ls 2 [(1, .int v1_1), (0, .ref (a 0))] → W p l e (rmk 5 107) s m [.ref (a 0)].toArray below meth c H locs 0 0 (MQ below (Qct E A (wX2 E a t) (some (.int r))) [.ref (a 0)].toArray s 0 0 A) (F0 m 2 ls []) := by
    intro k_1
    induction k_1 with
    | zero =>
      intro v1_1 hf
      rw [lp_X2_kindNamed_2] at hf
      cases hf
    | succ k_1 ih_1 =>
      intro v1_1 hf H locs ls hP hD hS hl
      rw [lp_X2_kindNamed_2] at hf
      refine lv_iload_n hx hb dX2_kindNamed_2 rfl (lv_at hl 0 rfl) ?_
      refine lv_bipush (v := (6 : Int32)) hx hb dX2_kindNamed_3 (by decide) ?_
      refine lv_icmp_ge (tgt := 27) hx hb dX2_kindNamed_5 (by decide) (fun c2 => ?_) (fun c2 => ?_)
      · have hf := ip c2 hf
        refine lv_iconst (v := (-1 : Int32)) hx hb dX2_kindNamed_27 (by decide) ?_
        obtain rfl := so1 hf
        exact rt_i hx hb hr hlocks hP hD hS dX2_kindNamed_28
      · have hf := im c2 hf
        refine lv_aload_n hx hb dX2_kindNamed_8 rfl (lv_at hl 1 rfl) ?_
        refine lv_iload_n hx hb dX2_kindNamed_9 rfl (lv_at hl 0 rfl) ?_
        obtain ⟨r4, hc3, hf⟩ := bd1_some hf
        refine cS (X := List.take 0 (wX2 E a t)) (Y := List.drop 0 (wX2 E a t)) (w := (wX2 E a t)) (w' := (wX2 E a t)) lk_X2_96 hx hb hml hown hE hA (c_X2_nameOfKind l E v1_1 r4 hc3) rfl rfl hP hD hS ⟨rfl, rfl, Nat.le_of_ble_eq_true rfl, Nat.le_of_ble_eq_true rfl⟩ hl.1 (As := [.int v1_1]) (rest := [.ref (a 0)]) rfl rfl (Nat.le_of_ble_eq_true rfl) ⟨Nat.zero_le _, Nat.zero_le _⟩ dX2_kindNamed_10 (fun H locs hP hD hS => ?_)
        have hi5 : r4 < 15 := f_X2_nameOfKind_lt hc3
        refine W.eq (g2 := F0 m 13 ls [.ref (E.2.2.2.1 r4), .ref (a 0)]) rfl ?_
        obtain ⟨r7, hc6, hf⟩ := bd1_some hf
        refine cV (X := List.take 0 (wX2 E a t)) (Y := List.drop 2 (wX2 E a t)) (w := (wX2 E a t)) (w' := (wX2 E a t)) (q0 := 0) lk_X2_40 hx hb hml hown hE hA (c_X2_isWord l E a t r4 hi5 r7 hc6) rfl rfl hP hD hS rfl rfl ⟨rfl, rfl, Nat.le_of_ble_eq_true rfl, Nat.le_of_ble_eq_true rfl⟩ hl.1 (As := [.ref (E.2.2.2.1 r4)]) (rest := []) rfl rfl (Nat.le_of_ble_eq_true rfl) ⟨Nat.zero_le _, Nat.zero_le _⟩ dX2_kindNamed_13 (fun H locs hP hD hS => ?_)
        refine W.eq (g2 := F0 m 16 ls [.int (bI r7)]) rfl ?_
        refine lv_if_eq (tgt := 21) hx hb dX2_kindNamed_16 (by decide) (fun c8 => ?_) (fun c8 => ?_)
        · have hf := ip c8 hf
          refine lv_iinc (v := (v1_1 + (1 : Int32))) (lv' := [(1, .int (v1_1 + (1 : Int32))), (0, .ref (a 0))]) hx hb dX2_kindNamed_21 hl (k := 0) rfl rfl (by decide) rfl (fun ls hl => ?_)
          refine lv_goto (tgt := 2) hx hb dX2_kindNamed_24 (by decide) ?_
          exact ih_1 _ hf _ _ _ hP hD hS (lv_sub hl [0, 1] rfl)
        · have hf := im c8 hf
          refine lv_iload_n hx hb dX2_kindNamed_19 rfl (lv_at hl 0 rfl) ?_
          obtain rfl := so1 hf
          exact rt_i hx hb hr hlocks hP hD hS dX2_kindNamed_20
  exact L_1 _ _ hf _ _ _ hP hD hS (lv_sub hl [0, 1] rfl)
def lp_X2_cueNamed_2 (t : TS) : Nat → (Int32) → Option (Int32)
  | 0, _ => none
  | k_1 + 1, v1_1 => if (4 : Int32) < v1_1 then some ((-1 : Int32)) else bd1 (f_X2_nameOfCue v1_1) (fun r4 => bd1 (f_X2_isWord t r4) (fun r7 => if (bI r7) = 0 then lp_X2_cueNamed_2 t k_1 (v1_1 + (1 : Int32)) else some (v1_1)))
def f_X2_cueNamed (t : TS) : Option (Int32) := lp_X2_cueNamed_2 t FU (0 : Int32)
set_option maxHeartbeats 4000000 in
set_option maxRecDepth 100000 in
theorem c_X2_cueNamed (l : Launch) (E : EV) (a : Nat → Nat) (t : TS)  (r : Int32) (hf : f_X2_cueNamed t = some r) : Ct l E yX2_cueNamed cX2_cueNamed 2 ((Option.some FieldType.int)) (rmk 5 107) [.ref (a 0)] (wX2 E a t) (wX2 E a t) (some (.int r)) := by
  refine Ct.of (by decide) (Nat.le_of_ble_eq_true rfl) ?_
  intro p e s m below meth c A ls hC hP hD hl
  obtain ⟨hx, hb, hr, hml, hown, hlocks, hE, hA⟩ := hC
  have hts : ∀ w ∈ tbl, w.before [.ref (a 0)].toArray s = true := fun w hw => hE.w hw
  have hS : va_S A s.heap s.heap [] := va_S.rf
  have hl : lv_has ls 2 [(0, .ref (a 0))] := hl
  unfold f_X2_cueNamed at hf
  refine lv_iconst (v := (0 : Int32)) hx hb dX2_cueNamed_0 (by decide) ?_
  refine lv_istore_n (lv' := [(1, .int (0 : Int32)), (0, .ref (a 0))]) hx hb dX2_cueNamed_1 rfl hl (by decide) rfl (fun ls hl => ?_)
  have L_1 : ∀ (k_1 : Nat) (v1_1 : Int32), lp_X2_cueNamed_2 t k_1 v1_1 = some r → ∀ (H : Heap) (locs : List Loc) (ls : Array Slot), va_P E.1 vwCl (wX2 E a t) H → va_D A (wX2 E a t) → va_S A s.heap H locs → lv_has ls 2 [(1, .int v1_1), (0, .ref (a 0))] → W p l e (rmk 5 107) s m [.ref (a 0)].toArray below meth c H locs 0 0 (MQ below (Qct E A (wX2 E a t) (some (.int r))) [.ref (a 0)].toArray s 0 0 A) (F0 m 2 ls []) := by
    intro k_1
    induction k_1 with
    | zero =>
      intro v1_1 hf
      rw [lp_X2_cueNamed_2] at hf
      cases hf
    | succ k_1 ih_1 =>
      intro v1_1 hf H locs ls hP hD hS hl
      rw [lp_X2_cueNamed_2] at hf
      refine lv_iload_n hx hb dX2_cueNamed_2 rfl (lv_at hl 0 rfl) ?_
      refine lv_iconst (v := (4 : Int32)) hx hb dX2_cueNamed_3 (by decide) ?_
      refine lv_icmp_gt (tgt := 26) hx hb dX2_cueNamed_4 (by decide) (fun c2 => ?_) (fun c2 => ?_)
      · have hf := ip c2 hf
        refine lv_iconst (v := (-1 : Int32)) hx hb dX2_cueNamed_26 (by decide) ?_
        obtain rfl := so1 hf
        exact rt_i hx hb hr hlocks hP hD hS dX2_cueNamed_27
      · have hf := im c2 hf
        refine lv_aload_n hx hb dX2_cueNamed_7 rfl (lv_at hl 1 rfl) ?_
        refine lv_iload_n hx hb dX2_cueNamed_8 rfl (lv_at hl 0 rfl) ?_
        obtain ⟨r4, hc3, hf⟩ := bd1_some hf
        refine cS (X := List.take 0 (wX2 E a t)) (Y := List.drop 0 (wX2 E a t)) (w := (wX2 E a t)) (w' := (wX2 E a t)) lk_X2_100 hx hb hml hown hE hA (c_X2_nameOfCue l E v1_1 r4 hc3) rfl rfl hP hD hS ⟨rfl, rfl, Nat.le_of_ble_eq_true rfl, Nat.le_of_ble_eq_true rfl⟩ hl.1 (As := [.int v1_1]) (rest := [.ref (a 0)]) rfl rfl (Nat.le_of_ble_eq_true rfl) ⟨Nat.zero_le _, Nat.zero_le _⟩ dX2_cueNamed_9 (fun H locs hP hD hS => ?_)
        have hi5 : r4 < 15 := f_X2_nameOfCue_lt hc3
        refine W.eq (g2 := F0 m 12 ls [.ref (E.2.2.2.1 r4), .ref (a 0)]) rfl ?_
        obtain ⟨r7, hc6, hf⟩ := bd1_some hf
        refine cV (X := List.take 0 (wX2 E a t)) (Y := List.drop 2 (wX2 E a t)) (w := (wX2 E a t)) (w' := (wX2 E a t)) (q0 := 0) lk_X2_40 hx hb hml hown hE hA (c_X2_isWord l E a t r4 hi5 r7 hc6) rfl rfl hP hD hS rfl rfl ⟨rfl, rfl, Nat.le_of_ble_eq_true rfl, Nat.le_of_ble_eq_true rfl⟩ hl.1 (As := [.ref (E.2.2.2.1 r4)]) (rest := []) rfl rfl (Nat.le_of_ble_eq_true rfl) ⟨Nat.zero_le _, Nat.zero_le _⟩ dX2_cueNamed_12 (fun H locs hP hD hS => ?_)
        refine W.eq (g2 := F0 m 15 ls [.int (bI r7)]) rfl ?_
        refine lv_if_eq (tgt := 20) hx hb dX2_cueNamed_15 (by decide) (fun c8 => ?_) (fun c8 => ?_)
        · have hf := ip c8 hf
          refine lv_iinc (v := (v1_1 + (1 : Int32))) (lv' := [(1, .int (v1_1 + (1 : Int32))), (0, .ref (a 0))]) hx hb dX2_cueNamed_20 hl (k := 0) rfl rfl (by decide) rfl (fun ls hl => ?_)
          refine lv_goto (tgt := 2) hx hb dX2_cueNamed_23 (by decide) ?_
          exact ih_1 _ hf _ _ _ hP hD hS (lv_sub hl [0, 1] rfl)
        · have hf := im c8 hf
          refine lv_iload_n hx hb dX2_cueNamed_18 rfl (lv_at hl 0 rfl) ?_
          obtain rfl := so1 hf
          exact rt_i hx hb hr hlocks hP hD hS dX2_cueNamed_19
  exact L_1 _ _ hf _ _ _ hP hD hS (lv_sub hl [0, 1] rfl)
