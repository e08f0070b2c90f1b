def f_X2_isLetter (p1 : Int32) : Option (Bool) := if p1 < (97 : Int32) then some (false) else if (122 : Int32) < p1 then some (false) else some (true)
set_option maxHeartbeats 1000000 in
set_option maxRecDepth 100000 in
theorem c_X2_isLetter (l : Launch) (E : EV)  (p1 : Int32)  (r : Bool) (hf : f_X2_isLetter p1 = some r) : Ct l E yX2_isLetter cX2_isLetter 1 ((Option.some FieldType.boolean)) (rmk 0 0) [.int p1] ([] : va_W) ([] : va_W) (some (.int (bI r))) := by
  refine Ct.of (by decide) (Nat.le_of_ble_eq_true rfl) ?_
  intro p e s m below meth c A ls hC hP hD hl
  obtain ⟨hx, hb, hr, hml, hown, hlocks, hE, hA⟩ := hC
  have hts : ∀ w ∈ tbl, w.before [.int p1].toArray s = true := fun w hw => hE.w hw
  have hS : va_S A s.heap s.heap [] := va_S.rf
  have hl : lv_has ls 1 [(0, .int p1)] := hl
  unfold f_X2_isLetter at hf
  refine lv_iload_n hx hb dX2_isLetter_0 rfl (lv_at hl 0 rfl) ?_
  refine lv_bipush (v := (97 : Int32)) hx hb dX2_isLetter_1 (by decide) ?_
  refine lv_icmp_lt (tgt := 16) hx hb dX2_isLetter_3 (by decide) (fun c1 => ?_) (fun c1 => ?_)
  · have hf := ip c1 hf
    refine lv_iconst (v := (0 : Int32)) hx hb dX2_isLetter_16 (by decide) ?_
    obtain rfl := so1 hf
    exact rt_z (bI_nar _) hx hb hr hlocks hP hD hS dX2_isLetter_17
  · have hf := im c1 hf
    refine lv_iload_n hx hb dX2_isLetter_6 rfl (lv_at hl 0 rfl) ?_
    refine lv_bipush (v := (122 : Int32)) hx hb dX2_isLetter_7 (by decide) ?_
    refine lv_icmp_gt (tgt := 16) hx hb dX2_isLetter_9 (by decide) (fun c2 => ?_) (fun c2 => ?_)
    · have hf := ip c2 hf
      refine lv_iconst (v := (0 : Int32)) hx hb dX2_isLetter_16 (by decide) ?_
      obtain rfl := so1 hf
      exact rt_z (bI_nar _) hx hb hr hlocks hP hD hS dX2_isLetter_17
    · have hf := im c2 hf
      refine lv_iconst (v := (1 : Int32)) hx hb dX2_isLetter_12 (by decide) ?_
      refine lv_goto (tgt := 17) hx hb dX2_isLetter_13 (by decide) ?_
      obtain rfl := so1 hf
      exact rt_z (bI_nar _) hx hb hr hlocks hP hD hS dX2_isLetter_17
def f_X2_isDigit (p1 : Int32) : Option (Bool) := if p1 < (48 : Int32) then some (false) else if (57 : Int32) < p1 then some (false) else some (true)
set_option maxHeartbeats 1000000 in
set_option maxRecDepth 100000 in
theorem c_X2_isDigit (l : Launch) (E : EV)  (p1 : Int32)  (r : Bool) (hf : f_X2_isDigit p1 = some r) : Ct l E yX2_isDigit cX2_isDigit 1 ((Option.some FieldType.boolean)) (rmk 0 0) [.int p1] ([] : va_W) ([] : va_W) (some (.int (bI r))) := by
  refine Ct.of (by decide) (Nat.le_of_ble_eq_true rfl) ?_
  intro p e s m below meth c A ls hC hP hD hl
  obtain ⟨hx, hb, hr, hml, hown, hlocks, hE, hA⟩ := hC
  have hts : ∀ w ∈ tbl, w.before [.int p1].toArray s = true := fun w hw => hE.w hw
  have hS : va_S A s.heap s.heap [] := va_S.rf
  have hl : lv_has ls 1 [(0, .int p1)] := hl
  unfold f_X2_isDigit at hf
  refine lv_iload_n hx hb dX2_isDigit_0 rfl (lv_at hl 0 rfl) ?_
  refine lv_bipush (v := (48 : Int32)) hx hb dX2_isDigit_1 (by decide) ?_
  refine lv_icmp_lt (tgt := 16) hx hb dX2_isDigit_3 (by decide) (fun c1 => ?_) (fun c1 => ?_)
  · have hf := ip c1 hf
    refine lv_iconst (v := (0 : Int32)) hx hb dX2_isDigit_16 (by decide) ?_
    obtain rfl := so1 hf
    exact rt_z (bI_nar _) hx hb hr hlocks hP hD hS dX2_isDigit_17
  · have hf := im c1 hf
    refine lv_iload_n hx hb dX2_isDigit_6 rfl (lv_at hl 0 rfl) ?_
    refine lv_bipush (v := (57 : Int32)) hx hb dX2_isDigit_7 (by decide) ?_
    refine lv_icmp_gt (tgt := 16) hx hb dX2_isDigit_9 (by decide) (fun c2 => ?_) (fun c2 => ?_)
    · have hf := ip c2 hf
      refine lv_iconst (v := (0 : Int32)) hx hb dX2_isDigit_16 (by decide) ?_
      obtain rfl := so1 hf
      exact rt_z (bI_nar _) hx hb hr hlocks hP hD hS dX2_isDigit_17
    · have hf := im c2 hf
      refine lv_iconst (v := (1 : Int32)) hx hb dX2_isDigit_12 (by decide) ?_
      refine lv_goto (tgt := 17) hx hb dX2_isDigit_13 (by decide) ?_
      obtain rfl := so1 hf
      exact rt_z (bI_nar _) hx hb hr hlocks hP hD hS dX2_isDigit_17
def f_X2_add (t : TS) (p1 : Int32) : Option (TS) := if (120 : Int32) ≤ (g2_length t) then some (t) else gd (g2_length t) 120 (some ((s2_length (s2_bytes t (upd (g2_bytes t) (g2_length t).toNatClampNeg (vp_nar .byte p1))) ((g2_length t) + (1 : Int32)))))
set_option maxHeartbeats 1000000 in
set_option maxRecDepth 100000 in
theorem c_X2_add (l : Launch) (E : EV) (a : Nat → Nat) (t : TS) (p1 : Int32)  (t' : TS) (hf : f_X2_add t p1 = some t') : Ct l E yX2_add cX2_add 2 (none) (rmk 0 0) [.ref (a 0), .int p1] (wX2 E a t) (wX2 E a t') none := by
  refine Ct.of (by decide) (Nat.le_of_ble_eq_true rfl) ?_
  intro p e s m below meth c A ls hC hP hD hl
  obtain ⟨hx, hb, hr, hml, hown, hlocks, hE, hA⟩ := hC
  have hts : ∀ w ∈ tbl, w.before [.ref (a 0), .int p1].toArray s = true := fun w hw => hE.w hw
  have hS : va_S A s.heap s.heap [] := va_S.rf
  have hl : lv_has ls 2 [(0, .ref (a 0)), (1, .int p1)] := hl
  unfold f_X2_add at hf
  refine lv_aload_n hx hb dX2_add_0 rfl (lv_at hl 0 rfl) ?_
  refine va_get (D := E.1) (ci := 2) (v := .int (g2_length t)) (C := RX2) (T := TX2) (N := 6) hx hb hts inX2 hown hE.2.1 hP 0 rfl rfl 1 (by decide) (hE.w tw_78) (fun _ h9 => h9) rfl dX2_add_1 ?_
  refine lv_bipush (v := (120 : Int32)) hx hb dX2_add_4 (by decide) ?_
  refine lv_icmp_ge (tgt := 29) hx hb dX2_add_6 (by decide) (fun c1 => ?_) (fun c1 => ?_)
  · have hf := ip c1 hf
    obtain rfl := so1 hf
    exact rt_v hx hb hr hlocks hP hD hS dX2_add_29
  · have hf := im c1 hf
    refine lv_aload_n hx hb dX2_add_9 rfl (lv_at hl 0 rfl) ?_
    refine va_get (D := E.1) (ci := 2) (v := .ref (a 1)) (C := RX2) (T := TX2) (N := 6) hx hb hts inX2 hown hE.2.1 hP 0 rfl rfl 0 (by decide) (hE.w tw_77) (fun _ h9 => h9) rfl dX2_add_10 ?_
    refine lv_aload_n hx hb dX2_add_13 rfl (lv_at hl 0 rfl) ?_
    refine va_get (D := E.1) (ci := 2) (v := .int (g2_length t)) (C := RX2) (T := TX2) (N := 6) hx hb hts inX2 hown hE.2.1 hP 0 rfl rfl 1 (by decide) (hE.w tw_78) (fun _ h9 => h9) rfl dX2_add_14 ?_
    refine lv_iload_n hx hb dX2_add_17 rfl (lv_at hl 1 rfl) ?_
    obtain ⟨hg2, hf⟩ := gd_some hf
    refine va_bast hx hb hE.2.1 hP hD hS 1 2 rfl rfl hg2 dX2_add_18 (fun H locs hP hD hS => ?_)
    have hP : va_P E.1 vwCl (wX2 E a (s2_bytes t (upd (g2_bytes t) (g2_length t).toNatClampNeg (vp_nar .byte p1)))) H := hP
    have hD : va_D A (wX2 E a (s2_bytes t (upd (g2_bytes t) (g2_length t).toNatClampNeg (vp_nar .byte p1)))) := hD
    refine lv_aload_n hx hb dX2_add_19 rfl (lv_at hl 0 rfl) ?_
    refine lv_dup hx hb dX2_add_20 rfl ?_
    refine va_get (D := E.1) (ci := 2) (v := .int (g2_length t)) (C := RX2) (T := TX2) (N := 6) hx hb hts inX2 hown hE.2.1 hP 0 rfl rfl 1 (by decide) (hE.w tw_78) (fun _ h9 => h9) rfl dX2_add_21 ?_
    refine lv_iconst (v := (1 : Int32)) hx hb dX2_add_24 (by decide) ?_
    refine lv_iadd hx hb dX2_add_25 ?_
    refine va_put (D := E.1) (ci := 2) (v := .int ((g2_length t) + (1 : Int32))) (ty := .int) (C := RX2) (T := TX2) (N := 6) hx hb hts inX2 tyX2 tyX2_ok nmX2 hown hE.2.1 hP hD hS 0 rfl rfl 1 (by decide) (hE.w tw_78) (fun _ h9 => h9) rfl (by decide +kernel) rfl rfl (Nat.le_of_ble_eq_true rfl) dX2_add_26 (fun H locs hP hD hS => ?_)
    have hP : va_P E.1 vwCl (wX2 E a (s2_length (s2_bytes t (upd (g2_bytes t) (g2_length t).toNatClampNeg (vp_nar .byte p1))) ((g2_length t) + (1 : Int32)))) H := hP
    have hD : va_D A (wX2 E a (s2_length (s2_bytes t (upd (g2_bytes t) (g2_length t).toNatClampNeg (vp_nar .byte p1))) ((g2_length t) + (1 : Int32)))) := hD
    obtain rfl := so1 hf
    exact rt_v hx hb hr hlocks hP hD hS dX2_add_29
def lp_X2_takeWord_5  : Nat → (TS) → Option (TS)
  | 0, _ => none
  | k_1 + 1, t_1 => if (g2_length t_1) ≤ (g2_behind t_1) then some (t_1) else gd (g2_behind t_1) 120 (bd1 (f_X2_isLetter ((g2_bytes t_1) (g2_behind t_1).toNatClampNeg)) (fun r5 => if (bI r5) = 0 then some (t_1) else lp_X2_takeWord_5  k_1 (s2_behind t_1 ((g2_behind t_1) + (1 : Int32)))))
def f_X2_takeWord (t : TS) : Option (TS) := lp_X2_takeWord_5  FU (s2_token t (1 : Int32))
set_option maxHeartbeats 1000000 in
set_option maxRecDepth 100000 in
theorem c_X2_takeWord (l : Launch) (E : EV) (a : Nat → Nat) (t : TS)  (t' : TS) (hf : f_X2_takeWord t = some t') : Ct l E yX2_takeWord cX2_takeWord 1 (none) (rmk 1 20) [.ref (a 0)] (wX2 E a t) (wX2 E a t') none := by
  refine Ct.of (by decide) (Nat.le_of_ble_eq_true rfl) ?_
  intro p e s m below meth c A ls hC hP hD hl
  obtain ⟨hx, hb, hr, hml, hown, hlocks, hE, hA⟩ := hC
  have hts : ∀ w ∈ tbl, w.before [.ref (a 0)].toArray s = true := fun w hw => hE.w hw
  have hS : va_S A s.heap s.heap [] := va_S.rf
  have hl : lv_has ls 1 [(0, .ref (a 0))] := hl
  unfold f_X2_takeWord at hf
  refine lv_aload_n hx hb dX2_takeWord_0 rfl (lv_at hl 0 rfl) ?_
  refine lv_iconst (v := (1 : Int32)) hx hb dX2_takeWord_1 (by decide) ?_
  refine va_put (D := E.1) (ci := 2) (v := .int (1 : Int32)) (ty := .int) (C := RX2) (T := TX2) (N := 6) hx hb hts inX2 tyX2 tyX2_ok nmX2 hown hE.2.1 hP hD hS 0 rfl rfl 4 (by decide) (hE.w tw_82) (fun _ h9 => h9) rfl (by decide +kernel) rfl rfl (Nat.le_of_ble_eq_true rfl) dX2_takeWord_2 (fun H locs hP hD hS => ?_)
  have hP : va_P E.1 vwCl (wX2 E a (s2_token t (1 : Int32))) H := hP
  have hD : va_D A (wX2 E a (s2_token t (1 : Int32))) := hD
  have L_1 : ∀ (k_1 : Nat) (t_1 : TS), lp_X2_takeWord_5  k_1 t_1 = some t' → ∀ (H : Heap) (locs : List Loc) (ls : Array Slot), va_P E.1 vwCl (wX2 E a t_1) H → va_D A (wX2 E a t_1) → va_S A s.heap H locs → lv_has ls 1 [(0, .ref (a 0))] → W p l e (rmk 1 20) s m [.ref (a 0)].toArray below meth c H locs 0 0 (MQ below (Qct E A (wX2 E a t') none) [.ref (a 0)].toArray s 0 0 A) (F0 m 5 ls []) := by
    intro k_1
    induction k_1 with
    | zero =>
      intro t_1 hf
      rw [lp_X2_takeWord_5] at hf
      cases hf
    | succ k_1 ih_1 =>
      intro t_1 hf H locs ls hP hD hS hl
      rw [lp_X2_takeWord_5] at hf
      refine lv_aload_n hx hb dX2_takeWord_5 rfl (lv_at hl 0 rfl) ?_
      refine va_get (D := E.1) (ci := 2) (v := .int (g2_behind t_1)) (C := RX2) (T := TX2) (N := 6) hx hb hts inX2 hown hE.2.1 hP 0 rfl rfl 3 (by decide) (hE.w tw_81) (fun _ h9 => h9) rfl dX2_takeWord_6 ?_
      refine lv_aload_n hx hb dX2_takeWord_9 rfl (lv_at hl 0 rfl) ?_
      refine va_get (D := E.1) (ci := 2) (v := .int (g2_length t_1)) (C := RX2) (T := TX2) (N := 6) hx hb hts inX2 hown hE.2.1 hP 0 rfl rfl 1 (by decide) (hE.w tw_78) (fun _ h9 => h9) rfl dX2_takeWord_10 ?_
      refine lv_icmp_ge (tgt := 44) hx hb dX2_takeWord_13 (by decide) (fun c2 => ?_) (fun c2 => ?_)
      · have hf := ip c2 hf
        obtain rfl := so1 hf
        exact rt_v hx hb hr hlocks hP hD hS dX2_takeWord_44
      · have hf := im c2 hf
        refine lv_aload_n hx hb dX2_takeWord_16 rfl (lv_at hl 0 rfl) ?_
        refine va_get (D := E.1) (ci := 2) (v := .ref (a 1)) (C := RX2) (T := TX2) (N := 6) hx hb hts inX2 hown hE.2.1 hP 0 rfl rfl 0 (by decide) (hE.w tw_77) (fun _ h9 => h9) rfl dX2_takeWord_17 ?_
        refine lv_aload_n hx hb dX2_takeWord_20 rfl (lv_at hl 0 rfl) ?_
        refine va_get (D := E.1) (ci := 2) (v := .int (g2_behind t_1)) (C := RX2) (T := TX2) (N := 6) hx hb hts inX2 hown hE.2.1 hP 0 rfl rfl 3 (by decide) (hE.w tw_81) (fun _ h9 => h9) rfl dX2_takeWord_21 ?_
        obtain ⟨hg3, hf⟩ := gd_some hf
        refine va_bald hx hb hE.2.1 hP 1 2 rfl rfl hg3 dX2_takeWord_24 ?_
        obtain ⟨r5, hc4, hf⟩ := bd1_some hf
        refine cS (X := List.take 0 (wX2 E a t_1)) (Y := List.drop 0 (wX2 E a t_1)) (w := (wX2 E a t_1)) (w' := (wX2 E a t_1)) lk_X2_133 hx hb hml hown hE hA (c_X2_isLetter l E ((g2_bytes t_1) (g2_behind t_1).toNatClampNeg) r5 hc4) rfl rfl hP hD hS ⟨rfl, rfl, Nat.le_of_ble_eq_true rfl, Nat.le_of_ble_eq_true rfl⟩ hl.1 (As := [.int ((g2_bytes t_1) (g2_behind t_1).toNatClampNeg)]) (rest := []) rfl rfl (Nat.le_of_ble_eq_true rfl) ⟨Nat.zero_le _, Nat.zero_le _⟩ dX2_takeWord_25 (fun H locs hP hD hS => ?_)
        refine W.eq (g2 := F0 m 28 ls [.int (bI r5)]) rfl ?_
        refine lv_if_eq (tgt := 44) hx hb dX2_takeWord_28 (by decide) (fun c6 => ?_) (fun c6 => ?_)
        · have hf := ip c6 hf
          obtain rfl := so1 hf
          exact rt_v hx hb hr hlocks hP hD hS dX2_takeWord_44
        · have hf := im c6 hf
          refine lv_aload_n hx hb dX2_takeWord_31 rfl (lv_at hl 0 rfl) ?_
          refine lv_dup hx hb dX2_takeWord_32 rfl ?_
          refine va_get (D := E.1) (ci := 2) (v := .int (g2_behind t_1)) (C := RX2) (T := TX2) (N := 6) hx hb hts inX2 hown hE.2.1 hP 0 rfl rfl 3 (by decide) (hE.w tw_81) (fun _ h9 => h9) rfl dX2_takeWord_33 ?_
          refine lv_iconst (v := (1 : Int32)) hx hb dX2_takeWord_36 (by decide) ?_
          refine lv_iadd hx hb dX2_takeWord_37 ?_
          refine va_put (D := E.1) (ci := 2) (v := .int ((g2_behind t_1) + (1 : Int32))) (ty := .int) (C := RX2) (T := TX2) (N := 6) hx hb hts inX2 tyX2 tyX2_ok nmX2 hown hE.2.1 hP hD hS 0 rfl rfl 3 (by decide) (hE.w tw_81) (fun _ h9 => h9) rfl (by decide +kernel) rfl rfl (Nat.le_of_ble_eq_true rfl) dX2_takeWord_38 (fun H locs hP hD hS => ?_)
          have hP : va_P E.1 vwCl (wX2 E a (s2_behind t_1 ((g2_behind t_1) + (1 : Int32)))) H := hP
          have hD : va_D A (wX2 E a (s2_behind t_1 ((g2_behind t_1) + (1 : Int32)))) := hD
          refine lv_goto (tgt := 5) hx hb dX2_takeWord_41 (by decide) ?_
          exact ih_1 _ hf _ _ _ hP hD hS (lv_sub hl [0] rfl)
  exact L_1 _ _ hf _ _ _ hP hD hS (lv_sub hl [0] rfl)
def lp_X2_takeNumber_10  : Nat → (TS) → Option (TS)
  | 0, _ => none
  | k_1 + 1, t_1 => if (g2_length t_1) ≤ (g2_behind t_1) then some (t_1) else gd (g2_behind t_1) 120 (bd1 (f_X2_isDigit ((g2_bytes t_1) (g2_behind t_1).toNatClampNeg)) (fun r5 => if (bI r5) = 0 then some (t_1) else gd (g2_behind t_1) 120 (lp_X2_takeNumber_10  k_1 (s2_number (s2_behind t_1 ((g2_behind t_1) + (1 : Int32))) (if (((g2_number t_1) * (10 : Int32)) + (((g2_bytes t_1) (g2_behind t_1).toNatClampNeg) - (48 : Int32))) < (1000 : Int32) then (((g2_number t_1) * (10 : Int32)) + (((g2_bytes t_1) (g2_behind t_1).toNatClampNeg) - (48 : Int32))) else (1000 : Int32))))))
def f_X2_takeNumber (t : TS) : Option (TS) := lp_X2_takeNumber_10  FU (s2_number (s2_token t (2 : Int32)) (0 : Int32))
set_option maxHeartbeats 1000000 in
set_option maxRecDepth 100000 in
theorem c_X2_takeNumber (l : Launch) (E : EV) (a : Nat → Nat) (t : TS)  (t' : TS) (hf : f_X2_takeNumber t = some t') : Ct l E yX2_takeNumber cX2_takeNumber 1 (none) (rmk 1 20) [.ref (a 0)] (wX2 E a t) (wX2 E a t') none := by
  refine Ct.of (by decide) (Nat.le_of_ble_eq_true rfl) ?_
  intro p e s m below meth c A ls hC hP hD hl
  obtain ⟨hx, hb, hr, hml, hown, hlocks, hE, hA⟩ := hC
  have hts : ∀ w ∈ tbl, w.before [.ref (a 0)].toArray s = true := fun w hw => hE.w hw
  have hS : va_S A s.heap s.heap [] := va_S.rf
  have hl : lv_has ls 1 [(0, .ref (a 0))] := hl
  unfold f_X2_takeNumber at hf
  refine lv_aload_n hx hb dX2_takeNumber_0 rfl (lv_at hl 0 rfl) ?_
  refine lv_iconst (v := (2 : Int32)) hx hb dX2_takeNumber_1 (by decide) ?_
  refine va_put (D := E.1) (ci := 2) (v := .int (2 : Int32)) (ty := .int) (C := RX2) (T := TX2) (N := 6) hx hb hts inX2 tyX2 tyX2_ok nmX2 hown hE.2.1 hP hD hS 0 rfl rfl 4 (by decide) (hE.w tw_82) (fun _ h9 => h9) rfl (by decide +kernel) rfl rfl (Nat.le_of_ble_eq_true rfl) dX2_takeNumber_2 (fun H locs hP hD hS => ?_)
  have hP : va_P E.1 vwCl (wX2 E a (s2_token t (2 : Int32))) H := hP
  have hD : va_D A (wX2 E a (s2_token t (2 : Int32))) := hD
  refine lv_aload_n hx hb dX2_takeNumber_5 rfl (lv_at hl 0 rfl) ?_
  refine lv_iconst (v := (0 : Int32)) hx hb dX2_takeNumber_6 (by decide) ?_
  refine va_put (D := E.1) (ci := 2) (v := .int (0 : Int32)) (ty := .int) (C := RX2) (T := TX2) (N := 6) hx hb hts inX2 tyX2 tyX2_ok nmX2 hown hE.2.1 hP hD hS 0 rfl rfl 5 (by decide) (hE.w tw_83) (fun _ h9 => h9) rfl (by decide +kernel) rfl rfl (Nat.le_of_ble_eq_true rfl) dX2_takeNumber_7 (fun H locs hP hD hS => ?_)
  have hP : va_P E.1 vwCl (wX2 E a (s2_number (s2_token t (2 : Int32)) (0 : Int32))) H := hP
  have hD : va_D A (wX2 E a (s2_number (s2_token t (2 : Int32)) (0 : Int32))) := hD
  have L_1 : ∀ (k_1 : Nat) (t_1 : TS), lp_X2_takeNumber_10  k_1 t_1 = some t' → ∀ (H : Heap) (locs : List Loc) (ls : Array Slot), va_P E.1 vwCl (wX2 E a t_1) H → va_D A (wX2 E a t_1) → va_S A s.heap H locs → lv_has ls 1 [(0, .ref (a 0))] → W p l e (rmk 1 20) s m [.ref (a 0)].toArray below meth c H locs 0 0 (MQ below (Qct E A (wX2 E a t') none) [.ref (a 0)].toArray s 0 0 A) (F0 m 10 ls []) := by
    intro k_1
    induction k_1 with
    | zero =>
      intro t_1 hf
      rw [lp_X2_takeNumber_10] at hf
      cases hf
    | succ k_1 ih_1 =>
      intro t_1 hf H locs ls hP hD hS hl
      rw [lp_X2_takeNumber_10] at hf
      refine lv_aload_n hx hb dX2_takeNumber_10 rfl (lv_at hl 0 rfl) ?_
      refine va_get (D := E.1) (ci := 2) (v := .int (g2_behind t_1)) (C := RX2) (T := TX2) (N := 6) hx hb hts inX2 hown hE.2.1 hP 0 rfl rfl 3 (by decide) (hE.w tw_81) (fun _ h9 => h9) rfl dX2_takeNumber_11 ?_
      refine lv_aload_n hx hb dX2_takeNumber_14 rfl (lv_at hl 0 rfl) ?_
      refine va_get (D := E.1) (ci := 2) (v := .int (g2_length t_1)) (C := RX2) (T := TX2) (N := 6) hx hb hts inX2 hown hE.2.1 hP 0 rfl rfl 1 (by decide) (hE.w tw_78) (fun _ h9 => h9) rfl dX2_takeNumber_15 ?_
      refine lv_icmp_ge (tgt := 79) hx hb dX2_takeNumber_18 (by decide) (fun c2 => ?_) (fun c2 => ?_)
      · have hf := ip c2 hf
        obtain rfl := so1 hf
        exact rt_v hx hb hr hlocks hP hD hS dX2_takeNumber_79
      · have hf := im c2 hf
        refine lv_aload_n hx hb dX2_takeNumber_21 rfl (lv_at hl 0 rfl) ?_
        refine va_get (D := E.1) (ci := 2) (v := .ref (a 1)) (C := RX2) (T := TX2) (N := 6) hx hb hts inX2 hown hE.2.1 hP 0 rfl rfl 0 (by decide) (hE.w tw_77) (fun _ h9 => h9) rfl dX2_takeNumber_22 ?_
        refine lv_aload_n hx hb dX2_takeNumber_25 rfl (lv_at hl 0 rfl) ?_
        refine va_get (D := E.1) (ci := 2) (v := .int (g2_behind t_1)) (C := RX2) (T := TX2) (N := 6) hx hb hts inX2 hown hE.2.1 hP 0 rfl rfl 3 (by decide) (hE.w tw_81) (fun _ h9 => h9) rfl dX2_takeNumber_26 ?_
        obtain ⟨hg3, hf⟩ := gd_some hf
        refine va_bald hx hb hE.2.1 hP 1 2 rfl rfl hg3 dX2_takeNumber_29 ?_
        obtain ⟨r5, hc4, hf⟩ := bd1_some hf
        refine cS (X := List.take 0 (wX2 E a t_1)) (Y := List.drop 0 (wX2 E a t_1)) (w := (wX2 E a t_1)) (w' := (wX2 E a t_1)) lk_X2_140 hx hb hml hown hE hA (c_X2_isDigit l E ((g2_bytes t_1) (g2_behind t_1).toNatClampNeg) r5 hc4) rfl rfl hP hD hS ⟨rfl, rfl, Nat.le_of_ble_eq_true rfl, Nat.le_of_ble_eq_true rfl⟩ hl.1 (As := [.int ((g2_bytes t_1) (g2_behind t_1).toNatClampNeg)]) (rest := []) rfl rfl (Nat.le_of_ble_eq_true rfl) ⟨Nat.zero_le _, Nat.zero_le _⟩ dX2_takeNumber_30 (fun H locs hP hD hS => ?_)
        refine W.eq (g2 := F0 m 33 ls [.int (bI r5)]) rfl ?_
        refine lv_if_eq (tgt := 79) hx hb dX2_takeNumber_33 (by decide) (fun c6 => ?_) (fun c6 => ?_)
        · have hf := ip c6 hf
          obtain rfl := so1 hf
          exact rt_v hx hb hr hlocks hP hD hS dX2_takeNumber_79
        · have hf := im c6 hf
          refine lv_aload_n hx hb dX2_takeNumber_36 rfl (lv_at hl 0 rfl) ?_
          refine lv_sipush (v := (1000 : Int32)) hx hb dX2_takeNumber_37 (by decide) ?_
          refine lv_aload_n hx hb dX2_takeNumber_40 rfl (lv_at hl 0 rfl) ?_
          refine va_get (D := E.1) (ci := 2) (v := .int (g2_number t_1)) (C := RX2) (T := TX2) (N := 6) hx hb hts inX2 hown hE.2.1 hP 0 rfl rfl 5 (by decide) (hE.w tw_83) (fun _ h9 => h9) rfl dX2_takeNumber_41 ?_
          refine lv_bipush (v := (10 : Int32)) hx hb dX2_takeNumber_44 (by decide) ?_
          refine lv_imul hx hb dX2_takeNumber_46 ?_
          refine lv_aload_n hx hb dX2_takeNumber_47 rfl (lv_at hl 0 rfl) ?_
          refine va_get (D := E.1) (ci := 2) (v := .ref (a 1)) (C := RX2) (T := TX2) (N := 6) hx hb hts inX2 hown hE.2.1 hP 0 rfl rfl 0 (by decide) (hE.w tw_77) (fun _ h9 => h9) rfl dX2_takeNumber_48 ?_
          refine lv_aload_n hx hb dX2_takeNumber_51 rfl (lv_at hl 0 rfl) ?_
          refine va_get (D := E.1) (ci := 2) (v := .int (g2_behind t_1)) (C := RX2) (T := TX2) (N := 6) hx hb hts inX2 hown hE.2.1 hP 0 rfl rfl 3 (by decide) (hE.w tw_81) (fun _ h9 => h9) rfl dX2_takeNumber_52 ?_
          obtain ⟨hg7, hf⟩ := gd_some hf
          refine va_bald hx hb hE.2.1 hP 1 2 rfl rfl hg7 dX2_takeNumber_55 ?_
          refine lv_bipush (v := (48 : Int32)) hx hb dX2_takeNumber_56 (by decide) ?_
          refine lv_isub hx hb dX2_takeNumber_58 ?_
          refine lv_iadd hx hb dX2_takeNumber_59 ?_
          refine va_mmin hx hb (hml.trans hl.1.symm) hown (hE.w tw_405) (hE.w tw_279) (hE.w tw_6) (hE.w tw_280) (Nat.le_of_ble_eq_true rfl) (Nat.le_of_ble_eq_true rfl) (Nat.zero_le _) (Nat.zero_le _) dX2_takeNumber_60 ?_
          refine va_put (D := E.1) (ci := 2) (v := .int (if (((g2_number t_1) * (10 : Int32)) + (((g2_bytes t_1) (g2_behind t_1).toNatClampNeg) - (48 : Int32))) < (1000 : Int32) then (((g2_number t_1) * (10 : Int32)) + (((g2_bytes t_1) (g2_behind t_1).toNatClampNeg) - (48 : Int32))) else (1000 : Int32))) (ty := .int) (C := RX2) (T := TX2) (N := 6) hx hb hts inX2 tyX2 tyX2_ok nmX2 hown hE.2.1 hP hD hS 0 rfl rfl 5 (by decide) (hE.w tw_83) (fun _ h9 => h9) rfl (by decide +kernel) rfl rfl (Nat.le_of_ble_eq_true rfl) dX2_takeNumber_63 (fun H locs hP hD hS => ?_)
          have hP : va_P E.1 vwCl (wX2 E a (s2_number t_1 (if (((g2_number t_1) * (10 : Int32)) + (((g2_bytes t_1) (g2_behind t_1).toNatClampNeg) - (48 : Int32))) < (1000 : Int32) then (((g2_number t_1) * (10 : Int32)) + (((g2_bytes t_1) (g2_behind t_1).toNatClampNeg) - (48 : Int32))) else (1000 : Int32)))) H := hP
          have hD : va_D A (wX2 E a (s2_number t_1 (if (((g2_number t_1) * (10 : Int32)) + (((g2_bytes t_1) (g2_behind t_1).toNatClampNeg) - (48 : Int32))) < (1000 : Int32) then (((g2_number t_1) * (10 : Int32)) + (((g2_bytes t_1) (g2_behind t_1).toNatClampNeg) - (48 : Int32))) else (1000 : Int32)))) := hD
          refine lv_aload_n hx hb dX2_takeNumber_66 rfl (lv_at hl 0 rfl) ?_
          refine lv_dup hx hb dX2_takeNumber_67 rfl ?_
          refine va_get (D := E.1) (ci := 2) (v := .int (g2_behind t_1)) (C := RX2) (T := TX2) (N := 6) hx hb hts inX2 hown hE.2.1 hP 0 rfl rfl 3 (by decide) (hE.w tw_81) (fun _ h9 => h9) rfl dX2_takeNumber_68 ?_
          refine lv_iconst (v := (1 : Int32)) hx hb dX2_takeNumber_71 (by decide) ?_
          refine lv_iadd hx hb dX2_takeNumber_72 ?_
          refine va_put (D := E.1) (ci := 2) (v := .int ((g2_behind t_1) + (1 : Int32))) (ty := .int) (C := RX2) (T := TX2) (N := 6) hx hb hts inX2 tyX2 tyX2_ok nmX2 hown hE.2.1 hP hD hS 0 rfl rfl 3 (by decide) (hE.w tw_81) (fun _ h9 => h9) rfl (by decide +kernel) rfl rfl (Nat.le_of_ble_eq_true rfl) dX2_takeNumber_73 (fun H locs hP hD hS => ?_)
          have hP : va_P E.1 vwCl (wX2 E a (s2_number (s2_behind t_1 ((g2_behind t_1) + (1 : Int32))) (if (((g2_number t_1) * (10 : Int32)) + (((g2_bytes t_1) (g2_behind t_1).toNatClampNeg) - (48 : Int32))) < (1000 : Int32) then (((g2_number t_1) * (10 : Int32)) + (((g2_bytes t_1) (g2_behind t_1).toNatClampNeg) - (48 : Int32))) else (1000 : Int32)))) H := hP
          have hD : va_D A (wX2 E a (s2_number (s2_behind t_1 ((g2_behind t_1) + (1 : Int32))) (if (((g2_number t_1) * (10 : Int32)) + (((g2_bytes t_1) (g2_behind t_1).toNatClampNeg) - (48 : Int32))) < (1000 : Int32) then (((g2_number t_1) * (10 : Int32)) + (((g2_bytes t_1) (g2_behind t_1).toNatClampNeg) - (48 : Int32))) else (1000 : Int32)))) := hD
          refine lv_goto (tgt := 10) hx hb dX2_takeNumber_76 (by decide) ?_
          exact ih_1 _ hf _ _ _ hP hD hS (lv_sub hl [0] rfl)
  exact L_1 _ _ hf _ _ _ hP hD hS (lv_sub hl [0] rfl)
def lp_X2_take_8  : Nat → (TS) → Option (TS)
  | 0, _ => none
  | k_1 + 1, t_1 => if (g2_length t_1) ≤ (g2_first t_1) then if (g2_first t_1) < (g2_length t_1) then gd (g2_first t_1) 120 (bd1 (f_X2_isLetter ((g2_bytes t_1) (g2_first t_1).toNatClampNeg)) (fun r6 => if (bI r6) = 0 then gd (g2_first t_1) 120 (bd1 (f_X2_isDigit ((g2_bytes t_1) (g2_first t_1).toNatClampNeg)) (fun r10 => if (bI r10) = 0 then gd (g2_first t_1) 120 (jn1 (if ((g2_bytes t_1) (g2_first t_1).toNatClampNeg) = (59 : Int32) then ((3 : Int32)) else ((4 : Int32))) (fun x14 => some ((s2_token (s2_behind t_1 ((g2_first t_1) + (1 : Int32))) x14)))) else bd1 (f_X2_takeNumber (s2_behind t_1 (g2_first t_1))) (fun t18 => some (t18)))) else bd1 (f_X2_takeWord (s2_behind t_1 (g2_first t_1))) (fun t20 => some (t20)))) else some ((s2_token (s2_behind t_1 (g2_first t_1)) (0 : Int32))) else gd (g2_first t_1) 120 (if ((g2_bytes t_1) (g2_first t_1).toNatClampNeg) = (32 : Int32) then lp_X2_take_8  k_1 (s2_first t_1 ((g2_first t_1) + (1 : Int32))) else if (g2_first t_1) < (g2_length t_1) then gd (g2_first t_1) 120 (bd1 (f_X2_isLetter ((g2_bytes t_1) (g2_first t_1).toNatClampNeg)) (fun r26 => if (bI r26) = 0 then gd (g2_first t_1) 120 (bd1 (f_X2_isDigit ((g2_bytes t_1) (g2_first t_1).toNatClampNeg)) (fun r30 => if (bI r30) = 0 then gd (g2_first t_1) 120 (jn1 (if ((g2_bytes t_1) (g2_first t_1).toNatClampNeg) = (59 : Int32) then ((3 : Int32)) else ((4 : Int32))) (fun x34 => some ((s2_token (s2_behind t_1 ((g2_first t_1) + (1 : Int32))) x34)))) else bd1 (f_X2_takeNumber (s2_behind t_1 (g2_first t_1))) (fun t38 => some (t38)))) else bd1 (f_X2_takeWord (s2_behind t_1 (g2_first t_1))) (fun t40 => some (t40)))) else some ((s2_token (s2_behind t_1 (g2_first t_1)) (0 : Int32))))
def f_X2_take (t : TS) : Option (TS) := lp_X2_take_8  FU (s2_first t (g2_behind t))
set_option maxHeartbeats 1000000 in
set_option maxRecDepth 100000 in
theorem c_X2_take (l : Launch) (E : EV) (a : Nat → Nat) (t : TS)  (t' : TS) (hf : f_X2_take t = some t') : Ct l E yX2_take cX2_take 1 (none) (rmk 2 40) [.ref (a 0)] (wX2 E a t) (wX2 E a t') none := by
  refine Ct.of (by decide) (Nat.le_of_ble_eq_true rfl) ?_
  intro p e s m below meth c A ls hC hP hD hl
  obtain ⟨hx, hb, hr, hml, hown, hlocks, hE, hA⟩ := hC
  have hts : ∀ w ∈ tbl, w.before [.ref (a 0)].toArray s = true := fun w hw => hE.w hw
  have hS : va_S A s.heap s.heap [] := va_S.rf
  have hl : lv_has ls 1 [(0, .ref (a 0))] := hl
  unfold f_X2_take at hf
  refine lv_aload_n hx hb dX2_take_0 rfl (lv_at hl 0 rfl) ?_
  refine lv_aload_n hx hb dX2_take_1 rfl (lv_at hl 0 rfl) ?_
  refine va_get (D := E.1) (ci := 2) (v := .int (g2_behind t)) (C := RX2) (T := TX2) (N := 6) hx hb hts inX2 hown hE.2.1 hP 0 rfl rfl 3 (by decide) (hE.w tw_81) (fun _ h9 => h9) rfl dX2_take_2 ?_
  refine va_put (D := E.1) (ci := 2) (v := .int (g2_behind t)) (ty := .int) (C := RX2) (T := TX2) (N := 6) hx hb hts inX2 tyX2 tyX2_ok nmX2 hown hE.2.1 hP hD hS 0 rfl rfl 2 (by decide) (hE.w tw_80) (fun _ h9 => h9) rfl (by decide +kernel) rfl rfl (Nat.le_of_ble_eq_true rfl) dX2_take_5 (fun H locs hP hD hS => ?_)
  have hP : va_P E.1 vwCl (wX2 E a (s2_first t (g2_behind t))) H := hP
  have hD : va_D A (wX2 E a (s2_first t (g2_behind t))) := hD
  have L_1 : ∀ (k_1 : Nat) (t_1 : TS), lp_X2_take_8  k_1 t_1 = some t' → ∀ (H : Heap) (locs : List Loc) (ls : Array Slot), va_P E.1 vwCl (wX2 E a t_1) H → va_D A (wX2 E a t_1) → va_S A s.heap H locs → lv_has ls 1 [(0, .ref (a 0))] → W p l e (rmk 2 40) s m [.ref (a 0)].toArray below meth c H locs 0 0 (MQ below (Qct E A (wX2 E a t') none) [.ref (a 0)].toArray s 0 0 A) (F0 m 8 ls []) := by
    intro k_1
    induction k_1 with
    | zero =>
      intro t_1 hf
      rw [lp_X2_take_8] at hf
      cases hf
    | succ k_1 ih_1 =>
      intro t_1 hf H locs ls hP hD hS hl
      rw [lp_X2_take_8] at hf
      refine lv_aload_n hx hb dX2_take_8 rfl (lv_at hl 0 rfl) ?_
      refine va_get (D := E.1) (ci := 2) (v := .int (g2_first t_1)) (C := RX2) (T := TX2) (N := 6) hx hb hts inX2 hown hE.2.1 hP 0 rfl rfl 2 (by decide) (hE.w tw_80) (fun _ h9 => h9) rfl dX2_take_9 ?_
      refine lv_aload_n hx hb dX2_take_12 rfl (lv_at hl 0 rfl) ?_
      refine va_get (D := E.1) (ci := 2) (v := .int (g2_length t_1)) (C := RX2) (T := TX2) (N := 6) hx hb hts inX2 hown hE.2.1 hP 0 rfl rfl 1 (by decide) (hE.w tw_78) (fun _ h9 => h9) rfl dX2_take_13 ?_
      refine lv_icmp_ge (tgt := 46) hx hb dX2_take_16 (by decide) (fun c2 => ?_) (fun c2 => ?_)
      · have hf := ip c2 hf
        refine lv_aload_n hx hb dX2_take_46 rfl (lv_at hl 0 rfl) ?_
        refine lv_aload_n hx hb dX2_take_47 rfl (lv_at hl 0 rfl) ?_
        refine va_get (D := E.1) (ci := 2) (v := .int (g2_first t_1)) (C := RX2) (T := TX2) (N := 6) hx hb hts inX2 hown hE.2.1 hP 0 rfl rfl 2 (by decide) (hE.w tw_80) (fun _ h9 => h9) rfl dX2_take_48 ?_
        refine va_put (D := E.1) (ci := 2) (v := .int (g2_first t_1)) (ty := .int) (C := RX2) (T := TX2) (N := 6) hx hb hts inX2 tyX2 tyX2_ok nmX2 hown hE.2.1 hP hD hS 0 rfl rfl 3 (by decide) (hE.w tw_81) (fun _ h9 => h9) rfl (by decide +kernel) rfl rfl (Nat.le_of_ble_eq_true rfl) dX2_take_51 (fun H locs hP hD hS => ?_)
        have hP : va_P E.1 vwCl (wX2 E a (s2_behind t_1 (g2_first t_1))) H := hP
        have hD : va_D A (wX2 E a (s2_behind t_1 (g2_first t_1))) := hD
        refine lv_aload_n hx hb dX2_take_54 rfl (lv_at hl 0 rfl) ?_
        refine va_get (D := E.1) (ci := 2) (v := .int (g2_first t_1)) (C := RX2) (T := TX2) (N := 6) hx hb hts inX2 hown hE.2.1 hP 0 rfl rfl 2 (by decide) (hE.w tw_80) (fun _ h9 => h9) rfl dX2_take_55 ?_
        refine lv_aload_n hx hb dX2_take_58 rfl (lv_at hl 0 rfl) ?_
        refine va_get (D := E.1) (ci := 2) (v := .int (g2_length t_1)) (C := RX2) (T := TX2) (N := 6) hx hb hts inX2 hown hE.2.1 hP 0 rfl rfl 1 (by decide) (hE.w tw_78) (fun _ h9 => h9) rfl dX2_take_59 ?_
        refine lv_icmp_lt (tgt := 73) hx hb dX2_take_62 (by decide) (fun c3 => ?_) (fun c3 => ?_)
        · have hf := ip c3 hf
          refine lv_aload_n hx hb dX2_take_73 rfl (lv_at hl 0 rfl) ?_
          refine va_get (D := E.1) (ci := 2) (v := .ref (a 1)) (C := RX2) (T := TX2) (N := 6) hx hb hts inX2 hown hE.2.1 hP 0 rfl rfl 0 (by decide) (hE.w tw_77) (fun _ h9 => h9) rfl dX2_take_74 ?_
          refine lv_aload_n hx hb dX2_take_77 rfl (lv_at hl 0 rfl) ?_
          refine va_get (D := E.1) (ci := 2) (v := .int (g2_first t_1)) (C := RX2) (T := TX2) (N := 6) hx hb hts inX2 hown hE.2.1 hP 0 rfl rfl 2 (by decide) (hE.w tw_80) (fun _ h9 => h9) rfl dX2_take_78 ?_
          obtain ⟨hg4, hf⟩ := gd_some hf
          refine va_bald hx hb hE.2.1 hP 1 2 rfl rfl hg4 dX2_take_81 ?_
          obtain ⟨r6, hc5, hf⟩ := bd1_some hf
          refine cS (X := List.take 0 (wX2 E a (s2_behind t_1 (g2_first t_1)))) (Y := List.drop 0 (wX2 E a (s2_behind t_1 (g2_first t_1)))) (w := (wX2 E a (s2_behind t_1 (g2_first t_1)))) (w' := (wX2 E a (s2_behind t_1 (g2_first t_1)))) lk_X2_133 hx hb hml hown hE hA (c_X2_isLetter l E ((g2_bytes t_1) (g2_first t_1).toNatClampNeg) r6 hc5) rfl rfl hP hD hS ⟨rfl, rfl, Nat.le_of_ble_eq_true rfl, Nat.le_of_ble_eq_true rfl⟩ hl.1 (As := [.int ((g2_bytes t_1) (g2_first t_1).toNatClampNeg)]) (rest := []) rfl rfl (Nat.le_of_ble_eq_true rfl) ⟨Nat.zero_le _, Nat.zero_le _⟩ dX2_take_82 (fun H locs hP hD hS => ?_)
          refine W.eq (g2 := F0 m 85 ls [.int (bI r6)]) rfl ?_
          refine lv_if_eq (tgt := 95) hx hb dX2_take_85 (by decide) (fun c7 => ?_) (fun c7 => ?_)
          · have hf := ip c7 hf
            refine lv_aload_n hx hb dX2_take_95 rfl (lv_at hl 0 rfl) ?_
            refine va_get (D := E.1) (ci := 2) (v := .ref (a 1)) (C := RX2) (T := TX2) (N := 6) hx hb hts inX2 hown hE.2.1 hP 0 rfl rfl 0 (by decide) (hE.w tw_77) (fun _ h9 => h9) rfl dX2_take_96 ?_
            refine lv_aload_n hx hb dX2_take_99 rfl (lv_at hl 0 rfl) ?_
            refine va_get (D := E.1) (ci := 2) (v := .int (g2_first t_1)) (C := RX2) (T := TX2) (N := 6) hx hb hts inX2 hown hE.2.1 hP 0 rfl rfl 2 (by decide) (hE.w tw_80) (fun _ h9 => h9) rfl dX2_take_100 ?_
            obtain ⟨hg8, hf⟩ := gd_some hf
            refine va_bald hx hb hE.2.1 hP 1 2 rfl rfl hg8 dX2_take_103 ?_
            obtain ⟨r10, hc9, hf⟩ := bd1_some hf
            refine cS (X := List.take 0 (wX2 E a (s2_behind t_1 (g2_first t_1)))) (Y := List.drop 0 (wX2 E a (s2_behind t_1 (g2_first t_1)))) (w := (wX2 E a (s2_behind t_1 (g2_first t_1)))) (w' := (wX2 E a (s2_behind t_1 (g2_first t_1)))) lk_X2_140 hx hb hml hown hE hA (c_X2_isDigit l E ((g2_bytes t_1) (g2_first t_1).toNatClampNeg) r10 hc9) rfl rfl hP hD hS ⟨rfl, rfl, Nat.le_of_ble_eq_true rfl, Nat.le_of_ble_eq_true rfl⟩ hl.1 (As := [.int ((g2_bytes t_1) (g2_first t_1).toNatClampNeg)]) (rest := []) rfl rfl (Nat.le_of_ble_eq_true rfl) ⟨Nat.zero_le _, Nat.zero_le _⟩ dX2_take_104 (fun H locs hP hD hS => ?_)
            refine W.eq (g2 := F0 m 107 ls [.int (bI r10)]) rfl ?_
            refine lv_if_eq (tgt := 117) hx hb dX2_take_107 (by decide) (fun c11 => ?_) (fun c11 => ?_)
            · have hf := ip c11 hf
              refine lv_aload_n hx hb dX2_take_117 rfl (lv_at hl 0 rfl) ?_
              refine lv_aload_n hx hb dX2_take_118 rfl (lv_at hl 0 rfl) ?_
              refine va_get (D := E.1) (ci := 2) (v := .ref (a 1)) (C := RX2) (T := TX2) (N := 6) hx hb hts inX2 hown hE.2.1 hP 0 rfl rfl 0 (by decide) (hE.w tw_77) (fun _ h9 => h9) rfl dX2_take_119 ?_
              refine lv_aload_n hx hb dX2_take_122 rfl (lv_at hl 0 rfl) ?_
              refine va_get (D := E.1) (ci := 2) (v := .int (g2_first t_1)) (C := RX2) (T := TX2) (N := 6) hx hb hts inX2 hown hE.2.1 hP 0 rfl rfl 2 (by decide) (hE.w tw_80) (fun _ h9 => h9) rfl dX2_take_123 ?_
              obtain ⟨hg12, hf⟩ := gd_some hf
              refine va_bald hx hb hE.2.1 hP 1 2 rfl rfl hg12 dX2_take_126 ?_
              refine lv_bipush (v := (59 : Int32)) hx hb dX2_take_127 (by decide) ?_
              obtain ⟨x14, hq16, hf⟩ := jn1_some hf
              have J15 : ∀ (H : Heap) (locs : List Loc) (ls : Array Slot), va_P E.1 vwCl (wX2 E a (s2_behind t_1 (g2_first t_1))) H → va_D A (wX2 E a (s2_behind t_1 (g2_first t_1))) → va_S A s.heap H locs → lv_has ls 1 [(0, .ref (a 0))] → W p l e (rmk 2 40) s m [.ref (a 0)].toArray below meth c H locs 0 0 (MQ below (Qct E A (wX2 E a t') none) [.ref (a 0)].toArray s 0 0 A) (F0 m 137 ls [.int x14, .ref (a 0)]) := by
                intro H locs ls hP hD hS hl
                refine va_put (D := E.1) (ci := 2) (v := .int x14) (ty := .int) (C := RX2) (T := TX2) (N := 6) hx hb hts inX2 tyX2 tyX2_ok nmX2 hown hE.2.1 hP hD hS 0 rfl rfl 4 (by decide) (hE.w tw_82) (fun _ h9 => h9) rfl (by decide +kernel) rfl rfl (Nat.le_of_ble_eq_true rfl) dX2_take_137 (fun H locs hP hD hS => ?_)
                have hP : va_P E.1 vwCl (wX2 E a (s2_token (s2_behind t_1 (g2_first t_1)) x14)) H := hP
                have hD : va_D A (wX2 E a (s2_token (s2_behind t_1 (g2_first t_1)) x14)) := hD
                refine lv_aload_n hx hb dX2_take_140 rfl (lv_at hl 0 rfl) ?_
                refine lv_dup hx hb dX2_take_141 rfl ?_
                refine va_get (D := E.1) (ci := 2) (v := .int (g2_first t_1)) (C := RX2) (T := TX2) (N := 6) hx hb hts inX2 hown hE.2.1 hP 0 rfl rfl 3 (by decide) (hE.w tw_81) (fun _ h9 => h9) rfl dX2_take_142 ?_
                refine lv_iconst (v := (1 : Int32)) hx hb dX2_take_145 (by decide) ?_
                refine lv_iadd hx hb dX2_take_146 ?_
                refine va_put (D := E.1) (ci := 2) (v := .int ((g2_first t_1) + (1 : Int32))) (ty := .int) (C := RX2) (T := TX2) (N := 6) hx hb hts inX2 tyX2 tyX2_ok nmX2 hown hE.2.1 hP hD hS 0 rfl rfl 3 (by decide) (hE.w tw_81) (fun _ h9 => h9) rfl (by decide +kernel) rfl rfl (Nat.le_of_ble_eq_true rfl) dX2_take_147 (fun H locs hP hD hS => ?_)
                have hP : va_P E.1 vwCl (wX2 E a (s2_token (s2_behind t_1 ((g2_first t_1) + (1 : Int32))) x14)) H := hP
                have hD : va_D A (wX2 E a (s2_token (s2_behind t_1 ((g2_first t_1) + (1 : Int32))) x14)) := hD
                obtain rfl := so1 hf
                exact rt_v hx hb hr hlocks hP hD hS dX2_take_150
              refine lv_icmp_ne (tgt := 136) hx hb dX2_take_129 (by decide) (fun c13 => ?_) (fun c13 => ?_)
              · have hq16 := ien c13 hq16
                refine lv_iconst (v := (4 : Int32)) hx hb dX2_take_136 (by decide) ?_
                obtain rfl := pj1 hq16
                exact J15 _ _ _ hP hD hS (lv_sub hl [0] rfl)
              · have hq16 := ie c13 hq16
                refine lv_iconst (v := (3 : Int32)) hx hb dX2_take_132 (by decide) ?_
                refine lv_goto (tgt := 137) hx hb dX2_take_133 (by decide) ?_
                obtain rfl := pj1 hq16
                exact J15 _ _ _ hP hD hS (lv_sub hl [0] rfl)
            · have hf := im c11 hf
              refine lv_aload_n hx hb dX2_take_110 rfl (lv_at hl 0 rfl) ?_
              obtain ⟨t18, hc17, hf⟩ := bd1_some hf
              refine cV (X := List.take 0 (wX2 E a (s2_behind t_1 (g2_first t_1)))) (Y := List.drop 2 (wX2 E a (s2_behind t_1 (g2_first t_1)))) (w := (wX2 E a (s2_behind t_1 (g2_first t_1)))) (w' := (wX2 E a t18)) (q0 := 0) lk_X2_143 hx hb hml hown hE hA (c_X2_takeNumber l E a (s2_behind t_1 (g2_first t_1)) t18 hc17) rfl rfl hP hD hS rfl rfl ⟨rfl, rfl, Nat.le_of_ble_eq_true rfl, Nat.le_of_ble_eq_true rfl⟩ hl.1 (As := []) (rest := []) rfl rfl (Nat.le_of_ble_eq_true rfl) ⟨Nat.zero_le _, Nat.zero_le _⟩ dX2_take_111 (fun H locs hP hD hS => ?_)
              refine W.eq (g2 := F0 m 114 ls []) rfl ?_
              refine lv_goto (tgt := 150) hx hb dX2_take_114 (by decide) ?_
              obtain rfl := so1 hf
              exact rt_v hx hb hr hlocks hP hD hS dX2_take_150
          · have hf := im c7 hf
            refine lv_aload_n hx hb dX2_take_88 rfl (lv_at hl 0 rfl) ?_
            obtain ⟨t20, hc19, hf⟩ := bd1_some hf
            refine cV (X := List.take 0 (wX2 E a (s2_behind t_1 (g2_first t_1)))) (Y := List.drop 2 (wX2 E a (s2_behind t_1 (g2_first t_1)))) (w := (wX2 E a (s2_behind t_1 (g2_first t_1)))) (w' := (wX2 E a t20)) (q0 := 0) lk_X2_137 hx hb hml hown hE hA (c_X2_takeWord l E a (s2_behind t_1 (g2_first t_1)) t20 hc19) rfl rfl hP hD hS rfl rfl ⟨rfl, rfl, Nat.le_of_ble_eq_true rfl, Nat.le_of_ble_eq_true rfl⟩ hl.1 (As := []) (rest := []) rfl rfl (Nat.le_of_ble_eq_true rfl) ⟨Nat.zero_le _, Nat.zero_le _⟩ dX2_take_89 (fun H locs hP hD hS => ?_)
            refine W.eq (g2 := F0 m 92 ls []) rfl ?_
            refine lv_goto (tgt := 150) hx hb dX2_take_92 (by decide) ?_
            obtain rfl := so1 hf
            exact rt_v hx hb hr hlocks hP hD hS dX2_take_150
        · have hf := im c3 hf
          refine lv_aload_n hx hb dX2_take_65 rfl (lv_at hl 0 rfl) ?_
          refine lv_iconst (v := (0 : Int32)) hx hb dX2_take_66 (by decide) ?_
          refine va_put (D := E.1) (ci := 2) (v := .int (0 : Int32)) (ty := .int) (C := RX2) (T := TX2) (N := 6) hx hb hts inX2 tyX2 tyX2_ok nmX2 hown hE.2.1 hP hD hS 0 rfl rfl 4 (by decide) (hE.w tw_82) (fun _ h9 => h9) rfl (by decide +kernel) rfl rfl (Nat.le_of_ble_eq_true rfl) dX2_take_67 (fun H locs hP hD hS => ?_)
          have hP : va_P E.1 vwCl (wX2 E a (s2_token (s2_behind t_1 (g2_first t_1)) (0 : Int32))) H := hP
          have hD : va_D A (wX2 E a (s2_token (s2_behind t_1 (g2_first t_1)) (0 : Int32))) := hD
          refine lv_goto (tgt := 150) hx hb dX2_take_70 (by decide) ?_
          obtain rfl := so1 hf
          exact rt_v hx hb hr hlocks hP hD hS dX2_take_150
      · have hf := im c2 hf
        refine lv_aload_n hx hb dX2_take_19 rfl (lv_at hl 0 rfl) ?_
        refine va_get (D := E.1) (ci := 2) (v := .ref (a 1)) (C := RX2) (T := TX2) (N := 6) hx hb hts inX2 hown hE.2.1 hP 0 rfl rfl 0 (by decide) (hE.w tw_77) (fun _ h9 => h9) rfl dX2_take_20 ?_
        refine lv_aload_n hx hb dX2_take_23 rfl (lv_at hl 0 rfl) ?_
        refine va_get (D := E.1) (ci := 2) (v := .int (g2_first t_1)) (C := RX2) (T := TX2) (N := 6) hx hb hts inX2 hown hE.2.1 hP 0 rfl rfl 2 (by decide) (hE.w tw_80) (fun _ h9 => h9) rfl dX2_take_24 ?_
        obtain ⟨hg21, hf⟩ := gd_some hf
        refine va_bald hx hb hE.2.1 hP 1 2 rfl rfl hg21 dX2_take_27 ?_
        refine lv_bipush (v := (32 : Int32)) hx hb dX2_take_28 (by decide) ?_
        refine lv_icmp_ne (tgt := 46) hx hb dX2_take_30 (by decide) (fun c22 => ?_) (fun c22 => ?_)
        · have hf := im c22 hf
          refine lv_aload_n hx hb dX2_take_46 rfl (lv_at hl 0 rfl) ?_
          refine lv_aload_n hx hb dX2_take_47 rfl (lv_at hl 0 rfl) ?_
          refine va_get (D := E.1) (ci := 2) (v := .int (g2_first t_1)) (C := RX2) (T := TX2) (N := 6) hx hb hts inX2 hown hE.2.1 hP 0 rfl rfl 2 (by decide) (hE.w tw_80) (fun _ h9 => h9) rfl dX2_take_48 ?_
          refine va_put (D := E.1) (ci := 2) (v := .int (g2_first t_1)) (ty := .int) (C := RX2) (T := TX2) (N := 6) hx hb hts inX2 tyX2 tyX2_ok nmX2 hown hE.2.1 hP hD hS 0 rfl rfl 3 (by decide) (hE.w tw_81) (fun _ h9 => h9) rfl (by decide +kernel) rfl rfl (Nat.le_of_ble_eq_true rfl) dX2_take_51 (fun H locs hP hD hS => ?_)
          have hP : va_P E.1 vwCl (wX2 E a (s2_behind t_1 (g2_first t_1))) H := hP
          have hD : va_D A (wX2 E a (s2_behind t_1 (g2_first t_1))) := hD
          refine lv_aload_n hx hb dX2_take_54 rfl (lv_at hl 0 rfl) ?_
          refine va_get (D := E.1) (ci := 2) (v := .int (g2_first t_1)) (C := RX2) (T := TX2) (N := 6) hx hb hts inX2 hown hE.2.1 hP 0 rfl rfl 2 (by decide) (hE.w tw_80) (fun _ h9 => h9) rfl dX2_take_55 ?_
          refine lv_aload_n hx hb dX2_take_58 rfl (lv_at hl 0 rfl) ?_
          refine va_get (D := E.1) (ci := 2) (v := .int (g2_length t_1)) (C := RX2) (T := TX2) (N := 6) hx hb hts inX2 hown hE.2.1 hP 0 rfl rfl 1 (by decide) (hE.w tw_78) (fun _ h9 => h9) rfl dX2_take_59 ?_
          refine lv_icmp_lt (tgt := 73) hx hb dX2_take_62 (by decide) (fun c23 => ?_) (fun c23 => ?_)
          · have hf := ip c23 hf
            refine lv_aload_n hx hb dX2_take_73 rfl (lv_at hl 0 rfl) ?_
            refine va_get (D := E.1) (ci := 2) (v := .ref (a 1)) (C := RX2) (T := TX2) (N := 6) hx hb hts inX2 hown hE.2.1 hP 0 rfl rfl 0 (by decide) (hE.w tw_77) (fun _ h9 => h9) rfl dX2_take_74 ?_
            refine lv_aload_n hx hb dX2_take_77 rfl (lv_at hl 0 rfl) ?_
            refine va_get (D := E.1) (ci := 2) (v := .int (g2_first t_1)) (C := RX2) (T := TX2) (N := 6) hx hb hts inX2 hown hE.2.1 hP 0 rfl rfl 2 (by decide) (hE.w tw_80) (fun _ h9 => h9) rfl dX2_take_78 ?_
            obtain ⟨hg24, hf⟩ := gd_some hf
            refine va_bald hx hb hE.2.1 hP 1 2 rfl rfl hg24 dX2_take_81 ?_
            obtain ⟨r26, hc25, hf⟩ := bd1_some hf
            refine cS (X := List.take 0 (wX2 E a (s2_behind t_1 (g2_first t_1)))) (Y := List.drop 0 (wX2 E a (s2_behind t_1 (g2_first t_1)))) (w := (wX2 E a (s2_behind t_1 (g2_first t_1)))) (w' := (wX2 E a (s2_behind t_1 (g2_first t_1)))) lk_X2_133 hx hb hml hown hE hA (c_X2_isLetter l E ((g2_bytes t_1) (g2_first t_1).toNatClampNeg) r26 hc25) rfl rfl hP hD hS ⟨rfl, rfl, Nat.le_of_ble_eq_true rfl, Nat.le_of_ble_eq_true rfl⟩ hl.1 (As := [.int ((g2_bytes t_1) (g2_first t_1).toNatClampNeg)]) (rest := []) rfl rfl (Nat.le_of_ble_eq_true rfl) ⟨Nat.zero_le _, Nat.zero_le _⟩ dX2_take_82 (fun H locs hP hD hS => ?_)
            refine W.eq (g2 := F0 m 85 ls [.int (bI r26)]) rfl ?_
            refine lv_if_eq (tgt := 95) hx hb dX2_take_85 (by decide) (fun c27 => ?_) (fun c27 => ?_)
            · have hf := ip c27 hf
              refine lv_aload_n hx hb dX2_take_95 rfl (lv_at hl 0 rfl) ?_
              refine va_get (D := E.1) (ci := 2) (v := .ref (a 1)) (C := RX2) (T := TX2) (N := 6) hx hb hts inX2 hown hE.2.1 hP 0 rfl rfl 0 (by decide) (hE.w tw_77) (fun _ h9 => h9) rfl dX2_take_96 ?_
              refine lv_aload_n hx hb dX2_take_99 rfl (lv_at hl 0 rfl) ?_
              refine va_get (D := E.1) (ci := 2) (v := .int (g2_first t_1)) (C := RX2) (T := TX2) (N := 6) hx hb hts inX2 hown hE.2.1 hP 0 rfl rfl 2 (by decide) (hE.w tw_80) (fun _ h9 => h9) rfl dX2_take_100 ?_
              obtain ⟨hg28, hf⟩ := gd_some hf
              refine va_bald hx hb hE.2.1 hP 1 2 rfl rfl hg28 dX2_take_103 ?_
              obtain ⟨r30, hc29, hf⟩ := bd1_some hf
              refine cS (X := List.take 0 (wX2 E a (s2_behind t_1 (g2_first t_1)))) (Y := List.drop 0 (wX2 E a (s2_behind t_1 (g2_first t_1)))) (w := (wX2 E a (s2_behind t_1 (g2_first t_1)))) (w' := (wX2 E a (s2_behind t_1 (g2_first t_1)))) lk_X2_140 hx hb hml hown hE hA (c_X2_isDigit l E ((g2_bytes t_1) (g2_first t_1).toNatClampNeg) r30 hc29) rfl rfl hP hD hS ⟨rfl, rfl, Nat.le_of_ble_eq_true rfl, Nat.le_of_ble_eq_true rfl⟩ hl.1 (As := [.int ((g2_bytes t_1) (g2_first t_1).toNatClampNeg)]) (rest := []) rfl rfl (Nat.le_of_ble_eq_true rfl) ⟨Nat.zero_le _, Nat.zero_le _⟩ dX2_take_104 (fun H locs hP hD hS => ?_)
              refine W.eq (g2 := F0 m 107 ls [.int (bI r30)]) rfl ?_
              refine lv_if_eq (tgt := 117) hx hb dX2_take_107 (by decide) (fun c31 => ?_) (fun c31 => ?_)
              · have hf := ip c31 hf
                refine lv_aload_n hx hb dX2_take_117 rfl (lv_at hl 0 rfl) ?_
                refine lv_aload_n hx hb dX2_take_118 rfl (lv_at hl 0 rfl) ?_
                refine va_get (D := E.1) (ci := 2) (v := .ref (a 1)) (C := RX2) (T := TX2) (N := 6) hx hb hts inX2 hown hE.2.1 hP 0 rfl rfl 0 (by decide) (hE.w tw_77) (fun _ h9 => h9) rfl dX2_take_119 ?_
                refine lv_aload_n hx hb dX2_take_122 rfl (lv_at hl 0 rfl) ?_
                refine va_get (D := E.1) (ci := 2) (v := .int (g2_first t_1)) (C := RX2) (T := TX2) (N := 6) hx hb hts inX2 hown hE.2.1 hP 0 rfl rfl 2 (by decide) (hE.w tw_80) (fun _ h9 => h9) rfl dX2_take_123 ?_
                obtain ⟨hg32, hf⟩ := gd_some hf
                refine va_bald hx hb hE.2.1 hP 1 2 rfl rfl hg32 dX2_take_126 ?_
                refine lv_bipush (v := (59 : Int32)) hx hb dX2_take_127 (by decide) ?_
                obtain ⟨x34, hq36, hf⟩ := jn1_some hf
                have J35 : ∀ (H : Heap) (locs : List Loc) (ls : Array Slot), va_P E.1 vwCl (wX2 E a (s2_behind t_1 (g2_first t_1))) H → va_D A (wX2 E a (s2_behind t_1 (g2_first t_1))) → va_S A s.heap H locs → lv_has ls 1 [(0, .ref (a 0))] → W p l e (rmk 2 40) s m [.ref (a 0)].toArray below meth c H locs 0 0 (MQ below (Qct E A (wX2 E a t') none) [.ref (a 0)].toArray s 0 0 A) (F0 m 137 ls [.int x34, .ref (a 0)]) := by
                  intro H locs ls hP hD hS hl
                  refine va_put (D := E.1) (ci := 2) (v := .int x34) (ty := .int) (C := RX2) (T := TX2) (N := 6) hx hb hts inX2 tyX2 tyX2_ok nmX2 hown hE.2.1 hP hD hS 0 rfl rfl 4 (by decide) (hE.w tw_82) (fun _ h9 => h9) rfl (by decide +kernel) rfl rfl (Nat.le_of_ble_eq_true rfl) dX2_take_137 (fun H locs hP hD hS => ?_)
                  have hP : va_P E.1 vwCl (wX2 E a (s2_token (s2_behind t_1 (g2_first t_1)) x34)) H := hP
                  have hD : va_D A (wX2 E a (s2_token (s2_behind t_1 (g2_first t_1)) x34)) := hD
                  refine lv_aload_n hx hb dX2_take_140 rfl (lv_at hl 0 rfl) ?_
                  refine lv_dup hx hb dX2_take_141 rfl ?_
                  refine va_get (D := E.1) (ci := 2) (v := .int (g2_first t_1)) (C := RX2) (T := TX2) (N := 6) hx hb hts inX2 hown hE.2.1 hP 0 rfl rfl 3 (by decide) (hE.w tw_81) (fun _ h9 => h9) rfl dX2_take_142 ?_
                  refine lv_iconst (v := (1 : Int32)) hx hb dX2_take_145 (by decide) ?_
                  refine lv_iadd hx hb dX2_take_146 ?_
                  refine va_put (D := E.1) (ci := 2) (v := .int ((g2_first t_1) + (1 : Int32))) (ty := .int) (C := RX2) (T := TX2) (N := 6) hx hb hts inX2 tyX2 tyX2_ok nmX2 hown hE.2.1 hP hD hS 0 rfl rfl 3 (by decide) (hE.w tw_81) (fun _ h9 => h9) rfl (by decide +kernel) rfl rfl (Nat.le_of_ble_eq_true rfl) dX2_take_147 (fun H locs hP hD hS => ?_)
                  have hP : va_P E.1 vwCl (wX2 E a (s2_token (s2_behind t_1 ((g2_first t_1) + (1 : Int32))) x34)) H := hP
                  have hD : va_D A (wX2 E a (s2_token (s2_behind t_1 ((g2_first t_1) + (1 : Int32))) x34)) := hD
                  obtain rfl := so1 hf
                  exact rt_v hx hb hr hlocks hP hD hS dX2_take_150
                refine lv_icmp_ne (tgt := 136) hx hb dX2_take_129 (by decide) (fun c33 => ?_) (fun c33 => ?_)
                · have hq36 := ien c33 hq36
                  refine lv_iconst (v := (4 : Int32)) hx hb dX2_take_136 (by decide) ?_
                  obtain rfl := pj1 hq36
                  exact J35 _ _ _ hP hD hS (lv_sub hl [0] rfl)
                · have hq36 := ie c33 hq36
                  refine lv_iconst (v := (3 : Int32)) hx hb dX2_take_132 (by decide) ?_
                  refine lv_goto (tgt := 137) hx hb dX2_take_133 (by decide) ?_
                  obtain rfl := pj1 hq36
                  exact J35 _ _ _ hP hD hS (lv_sub hl [0] rfl)
              · have hf := im c31 hf
                refine lv_aload_n hx hb dX2_take_110 rfl (lv_at hl 0 rfl) ?_
                obtain ⟨t38, hc37, hf⟩ := bd1_some hf
                refine cV (X := List.take 0 (wX2 E a (s2_behind t_1 (g2_first t_1)))) (Y := List.drop 2 (wX2 E a (s2_behind t_1 (g2_first t_1)))) (w := (wX2 E a (s2_behind t_1 (g2_first t_1)))) (w' := (wX2 E a t38)) (q0 := 0) lk_X2_143 hx hb hml hown hE hA (c_X2_takeNumber l E a (s2_behind t_1 (g2_first t_1)) t38 hc37) rfl rfl hP hD hS rfl rfl ⟨rfl, rfl, Nat.le_of_ble_eq_true rfl, Nat.le_of_ble_eq_true rfl⟩ hl.1 (As := []) (rest := []) rfl rfl (Nat.le_of_ble_eq_true rfl) ⟨Nat.zero_le _, Nat.zero_le _⟩ dX2_take_111 (fun H locs hP hD hS => ?_)
                refine W.eq (g2 := F0 m 114 ls []) rfl ?_
                refine lv_goto (tgt := 150) hx hb dX2_take_114 (by decide) ?_
                obtain rfl := so1 hf
                exact rt_v hx hb hr hlocks hP hD hS dX2_take_150
            · have hf := im c27 hf
              refine lv_aload_n hx hb dX2_take_88 rfl (lv_at hl 0 rfl) ?_
              obtain ⟨t40, hc39, hf⟩ := bd1_some hf
              refine cV (X := List.take 0 (wX2 E a (s2_behind t_1 (g2_first t_1)))) (Y := List.drop 2 (wX2 E a (s2_behind t_1 (g2_first t_1)))) (w := (wX2 E a (s2_behind t_1 (g2_first t_1)))) (w' := (wX2 E a t40)) (q0 := 0) lk_X2_137 hx hb hml hown hE hA (c_X2_takeWord l E a (s2_behind t_1 (g2_first t_1)) t40 hc39) rfl rfl hP hD hS rfl rfl ⟨rfl, rfl, Nat.le_of_ble_eq_true rfl, Nat.le_of_ble_eq_true rfl⟩ hl.1 (As := []) (rest := []) rfl rfl (Nat.le_of_ble_eq_true rfl) ⟨Nat.zero_le _, Nat.zero_le _⟩ dX2_take_89 (fun H locs hP hD hS => ?_)
              refine W.eq (g2 := F0 m 92 ls []) rfl ?_
              refine lv_goto (tgt := 150) hx hb dX2_take_92 (by decide) ?_
              obtain rfl := so1 hf
              exact rt_v hx hb hr hlocks hP hD hS dX2_take_150
          · have hf := im c23 hf
            refine lv_aload_n hx hb dX2_take_65 rfl (lv_at hl 0 rfl) ?_
            refine lv_iconst (v := (0 : Int32)) hx hb dX2_take_66 (by decide) ?_
            refine va_put (D := E.1) (ci := 2) (v := .int (0 : Int32)) (ty := .int) (C := RX2) (T := TX2) (N := 6) hx hb hts inX2 tyX2 tyX2_ok nmX2 hown hE.2.1 hP hD hS 0 rfl rfl 4 (by decide) (hE.w tw_82) (fun _ h9 => h9) rfl (by decide +kernel) rfl rfl (Nat.le_of_ble_eq_true rfl) dX2_take_67 (fun H locs hP hD hS => ?_)
            have hP : va_P E.1 vwCl (wX2 E a (s2_token (s2_behind t_1 (g2_first t_1)) (0 : Int32))) H := hP
            have hD : va_D A (wX2 E a (s2_token (s2_behind t_1 (g2_first t_1)) (0 : Int32))) := hD
            refine lv_goto (tgt := 150) hx hb dX2_take_70 (by decide) ?_
            obtain rfl := so1 hf
            exact rt_v hx hb hr hlocks hP hD hS dX2_take_150
        · have hf := ip c22 hf
          refine lv_aload_n hx hb dX2_take_33 rfl (lv_at hl 0 rfl) ?_
          refine lv_dup hx hb dX2_take_34 rfl ?_
          refine va_get (D := E.1) (ci := 2) (v := .int (g2_first t_1)) (C := RX2) (T := TX2) (N := 6) hx hb hts inX2 hown hE.2.1 hP 0 rfl rfl 2 (by decide) (hE.w tw_80) (fun _ h9 => h9) rfl dX2_take_35 ?_
          refine lv_iconst (v := (1 : Int32)) hx hb dX2_take_38 (by decide) ?_
          refine lv_iadd hx hb dX2_take_39 ?_
          refine va_put (D := E.1) (ci := 2) (v := .int ((g2_first t_1) + (1 : Int32))) (ty := .int) (C := RX2) (T := TX2) (N := 6) hx hb hts inX2 tyX2 tyX2_ok nmX2 hown hE.2.1 hP hD hS 0 rfl rfl 2 (by decide) (hE.w tw_80) (fun _ h9 => h9) rfl (by decide +kernel) rfl rfl (Nat.le_of_ble_eq_true rfl) dX2_take_40 (fun H locs hP hD hS => ?_)
          have hP : va_P E.1 vwCl (wX2 E a (s2_first t_1 ((g2_first t_1) + (1 : Int32)))) H := hP
          have hD : va_D A (wX2 E a (s2_first t_1 ((g2_first t_1) + (1 : Int32)))) := hD
          refine lv_goto (tgt := 8) hx hb dX2_take_43 (by decide) ?_
          exact ih_1 _ hf _ _ _ hP hD hS (lv_sub hl [0] rfl)
  exact L_1 _ _ hf _ _ _ hP hD hS (lv_sub hl [0] rfl)
def f_X2_isNumberTo (t : TS) (p1 : Int32) : Option (Bool) := if (g2_token t) = (2 : Int32) then if p1 < (g2_number t) then some (false) else some (true) else some (false)
set_option maxHeartbeats 1000000 in
set_option maxRecDepth 100000 in
theorem c_X2_isNumberTo (l : Launch) (E : EV) (a : Nat → Nat) (t : TS) (p1 : Int32)  (r : Bool) (hf : f_X2_isNumberTo t p1 = some r) : Ct l E yX2_isNumberTo cX2_isNumberTo 2 ((Option.some FieldType.boolean)) (rmk 0 0) [.ref (a 0), .int p1] (wX2 E a t) (wX2 E a t) (some (.int (bI r))) := by
  refine Ct.of (by decide) (Nat.le_of_ble_eq_true rfl) ?_
  intro p e s m below meth c A ls hC hP hD hl
  obtain ⟨hx, hb, hr, hml, hown, hlocks, hE, hA⟩ := hC
  have hts : ∀ w ∈ tbl, w.before [.ref (a 0), .int p1].toArray s = true := fun w hw => hE.w hw
  have hS : va_S A s.heap s.heap [] := va_S.rf
  have hl : lv_has ls 2 [(0, .ref (a 0)), (1, .int p1)] := hl
  unfold f_X2_isNumberTo at hf
  refine lv_aload_n hx hb dX2_isNumberTo_0 rfl (lv_at hl 0 rfl) ?_
  refine va_get (D := E.1) (ci := 2) (v := .int (g2_token t)) (C := RX2) (T := TX2) (N := 6) hx hb hts inX2 hown hE.2.1 hP 0 rfl rfl 4 (by decide) (hE.w tw_82) (fun _ h9 => h9) rfl dX2_isNumberTo_1 ?_
  refine lv_iconst (v := (2 : Int32)) hx hb dX2_isNumberTo_4 (by decide) ?_
  refine lv_icmp_ne (tgt := 20) hx hb dX2_isNumberTo_5 (by decide) (fun c1 => ?_) (fun c1 => ?_)
  · have hf := im c1 hf
    refine lv_iconst (v := (0 : Int32)) hx hb dX2_isNumberTo_20 (by decide) ?_
    obtain rfl := so1 hf
    exact rt_z (bI_nar _) hx hb hr hlocks hP hD hS dX2_isNumberTo_21
  · have hf := ip c1 hf
    refine lv_aload_n hx hb dX2_isNumberTo_8 rfl (lv_at hl 0 rfl) ?_
    refine va_get (D := E.1) (ci := 2) (v := .int (g2_number t)) (C := RX2) (T := TX2) (N := 6) hx hb hts inX2 hown hE.2.1 hP 0 rfl rfl 5 (by decide) (hE.w tw_83) (fun _ h9 => h9) rfl dX2_isNumberTo_9 ?_
    refine lv_iload_n hx hb dX2_isNumberTo_12 rfl (lv_at hl 1 rfl) ?_
    refine lv_icmp_gt (tgt := 20) hx hb dX2_isNumberTo_13 (by decide) (fun c2 => ?_) (fun c2 => ?_)
    · have hf := ip c2 hf
      refine lv_iconst (v := (0 : Int32)) hx hb dX2_isNumberTo_20 (by decide) ?_
      obtain rfl := so1 hf
      exact rt_z (bI_nar _) hx hb hr hlocks hP hD hS dX2_isNumberTo_21
    · have hf := im c2 hf
      refine lv_iconst (v := (1 : Int32)) hx hb dX2_isNumberTo_16 (by decide) ?_
      refine lv_goto (tgt := 21) hx hb dX2_isNumberTo_17 (by decide) ?_
      obtain rfl := so1 hf
      exact rt_z (bI_nar _) hx hb hr hlocks hP hD hS dX2_isNumberTo_21
def lp_X2_isWord_28 (t : TS) (i : Nat) : Nat → (Int32) → Option (Bool)
  | 0, _ => none
  | k_3 + 1, v2_3 => if (nI (st_len.getD i 0)) ≤ v2_3 then some (true) else gd ((g2_first t) + v2_3) 120 (gd v2_3 (st_len.getD i 0) (if ((g2_bytes t) ((g2_first t) + v2_3).toNatClampNeg) = (st_ch i v2_3) then lp_X2_isWord_28 t i k_3 (v2_3 + (1 : Int32)) else some (false)))
def f_X2_isWord (t : TS) (i : Nat) : Option (Bool) := if (g2_token t) = (1 : Int32) then if ((g2_behind t) - (g2_first t)) = (nI (st_len.getD i 0)) then lp_X2_isWord_28 t i FU (0 : Int32) else some (false) else some (false)
set_option maxHeartbeats 1000000 in
set_option maxRecDepth 100000 in
theorem c_X2_isWord (l : Launch) (E : EV) (a : Nat → Nat) (t : TS) (i : Nat) (hi : i < 15) (r : Bool) (hf : f_X2_isWord t i = some r) : Ct l E yX2_isWord cX2_isWord 3 ((Option.some FieldType.boolean)) (rmk 4 85) [.ref (a 0), .ref (E.2.2.2.1 i)] (wX2 E a t) (wX2 E a t) (some (.int (bI r))) := by
  refine Ct.of (by decide) (Nat.le_of_ble_eq_true rfl) ?_
  intro p e s m below meth c A ls hC hP hD hl
  obtain ⟨hx, hb, hr, hml, hown, hlocks, hE, hA⟩ := hC
  have hts : ∀ w ∈ tbl, w.before [.ref (a 0), .ref (E.2.2.2.1 i)].toArray s = true := fun w hw => hE.w hw
  have hS : va_S A s.heap s.heap [] := va_S.rf
  have hl : lv_has ls 3 [(0, .ref (a 0)), (1, .ref (E.2.2.2.1 i))] := hl
  unfold f_X2_isWord at hf
  refine lv_aload_n hx hb dX2_isWord_0 rfl (lv_at hl 0 rfl) ?_
  refine va_get (D := E.1) (ci := 2) (v := .int (g2_token t)) (C := RX2) (T := TX2) (N := 6) hx hb hts inX2 hown hE.2.1 hP 0 rfl rfl 4 (by decide) (hE.w tw_82) (fun _ h9 => h9) rfl dX2_isWord_1 ?_
  refine lv_iconst (v := (1 : Int32)) hx hb dX2_isWord_4 (by decide) ?_
  refine lv_icmp_ne (tgt := 24) hx hb dX2_isWord_5 (by decide) (fun c1 => ?_) (fun c1 => ?_)
  · have hf := im c1 hf
    refine lv_iconst (v := (0 : Int32)) hx hb dX2_isWord_24 (by decide) ?_
    obtain rfl := so1 hf
    exact rt_z (bI_nar _) hx hb hr hlocks hP hD hS dX2_isWord_25
  · have hf := ip c1 hf
    refine lv_aload_n hx hb dX2_isWord_8 rfl (lv_at hl 0 rfl) ?_
    refine va_get (D := E.1) (ci := 2) (v := .int (g2_behind t)) (C := RX2) (T := TX2) (N := 6) hx hb hts inX2 hown hE.2.1 hP 0 rfl rfl 3 (by decide) (hE.w tw_81) (fun _ h9 => h9) rfl dX2_isWord_9 ?_
    refine lv_aload_n hx hb dX2_isWord_12 rfl (lv_at hl 0 rfl) ?_
    refine va_get (D := E.1) (ci := 2) (v := .int (g2_first t)) (C := RX2) (T := TX2) (N := 6) hx hb hts inX2 hown hE.2.1 hP 0 rfl rfl 2 (by decide) (hE.w tw_80) (fun _ h9 => h9) rfl dX2_isWord_13 ?_
    refine lv_isub hx hb dX2_isWord_16 ?_
    refine lv_aload_n hx hb dX2_isWord_17 rfl (lv_at hl 1 rfl) ?_
    refine cVs lk_X2_125 hx hb hml hown hE hA (c_len l E i hi) hi hP hD hS ⟨rfl, rfl, Nat.le_of_ble_eq_true rfl, Nat.le_of_ble_eq_true rfl⟩ hl.1 (As := []) (rest := [.int ((g2_behind t) - (g2_first t))]) rfl rfl (Nat.le_of_ble_eq_true rfl) ⟨Nat.zero_le _, Nat.zero_le _⟩ dX2_isWord_18 (fun H locs hP hD hS => ?_)
    refine W.eq (g2 := F0 m 21 ls [.int (nI (st_len.getD i 0)), .int ((g2_behind t) - (g2_first t))]) rfl ?_
    refine lv_icmp_eq (tgt := 26) hx hb dX2_isWord_21 (by decide) (fun c2 => ?_) (fun c2 => ?_)
    · have hf := ip c2 hf
      refine lv_iconst (v := (0 : Int32)) hx hb dX2_isWord_26 (by decide) ?_
      refine lv_istore_n (lv' := [(2, .int (0 : Int32)), (0, .ref (a 0)), (1, .ref (E.2.2.2.1 i))]) hx hb dX2_isWord_27 rfl hl (by decide) rfl (fun ls hl => ?_)
      have L_3 : ∀ (k_3 : Nat) (v2_3 : Int32), lp_X2_isWord_28 t i k_3 v2_3 = some r → ∀ (H : Heap) (locs : List Loc) (ls : Array Slot), va_P E.1 vwCl (wX2 E a t) H → va_D A (wX2 E a t) → va_S A s.heap H locs → lv_has ls 3 [(2, .int v2_3), (0, .ref (a 0)), (1, .ref (E.2.2.2.1 i))] → W p l e (rmk 4 85) s m [.ref (a 0), .ref (E.2.2.2.1 i)].toArray below meth c H locs 0 0 (MQ below (Qct E A (wX2 E a t) (some (.int (bI r)))) [.ref (a 0), .ref (E.2.2.2.1 i)].toArray s 0 0 A) (F0 m 28 ls []) := by
        intro k_3
        induction k_3 with
        | zero =>
          intro v2_3 hf
          rw [lp_X2_isWord_28] at hf
          cases hf
        | succ k_3 ih_3 =>
          intro v2_3 hf H locs ls hP hD hS hl
          rw [lp_X2_isWord_28] at hf
          refine lv_iload_n hx hb dX2_isWord_28 rfl (lv_at hl 0 rfl) ?_
          refine lv_aload_n hx hb dX2_isWord_29 rfl (lv_at hl 2 rfl) ?_
          refine cVs lk_X2_125 hx hb hml hown hE hA (c_len l E i hi) hi hP hD hS ⟨rfl, rfl, Nat.le_of_ble_eq_true rfl, Nat.le_of_ble_eq_true rfl⟩ hl.1 (As := []) (rest := [.int v2_3]) rfl rfl (Nat.le_of_ble_eq_true rfl) ⟨Nat.zero_le _, Nat.zero_le _⟩ dX2_isWord_30 (fun H locs hP hD hS => ?_)
          refine W.eq (g2 := F0 m 33 ls [.int (nI (st_len.getD i 0)), .int v2_3]) rfl ?_
          refine lv_icmp_ge (tgt := 63) hx hb dX2_isWord_33 (by decide) (fun c4 => ?_) (fun c4 => ?_)
          · have hf := ip c4 hf
            refine lv_iconst (v := (1 : Int32)) hx hb dX2_isWord_63 (by decide) ?_
            obtain rfl := so1 hf
            exact rt_z (bI_nar _) hx hb hr hlocks hP hD hS dX2_isWord_64
          · have hf := im c4 hf
            refine lv_aload_n hx hb dX2_isWord_36 rfl (lv_at hl 1 rfl) ?_
            refine va_get (D := E.1) (ci := 2) (v := .ref (a 1)) (C := RX2) (T := TX2) (N := 6) hx hb hts inX2 hown hE.2.1 hP 0 rfl rfl 0 (by decide) (hE.w tw_77) (fun _ h9 => h9) rfl dX2_isWord_37 ?_
            refine lv_aload_n hx hb dX2_isWord_40 rfl (lv_at hl 1 rfl) ?_
            refine va_get (D := E.1) (ci := 2) (v := .int (g2_first t)) (C := RX2) (T := TX2) (N := 6) hx hb hts inX2 hown hE.2.1 hP 0 rfl rfl 2 (by decide) (hE.w tw_80) (fun _ h9 => h9) rfl dX2_isWord_41 ?_
            refine lv_iload_n hx hb dX2_isWord_44 rfl (lv_at hl 0 rfl) ?_
            refine lv_iadd hx hb dX2_isWord_45 ?_
            obtain ⟨hg5, hf⟩ := gd_some hf
            refine va_bald hx hb hE.2.1 hP 1 2 rfl rfl hg5 dX2_isWord_46 ?_
            refine lv_aload_n hx hb dX2_isWord_47 rfl (lv_at hl 2 rfl) ?_
            refine lv_iload_n hx hb dX2_isWord_48 rfl (lv_at hl 0 rfl) ?_
            obtain ⟨hg6, hf⟩ := gd_some hf
            refine cVs lk_X2_129 hx hb hml hown hE hA (c_chr l E i hi v2_3 hg6) hi hP hD hS ⟨rfl, rfl, Nat.le_of_ble_eq_true rfl, Nat.le_of_ble_eq_true rfl⟩ hl.1 (As := [.int v2_3]) (rest := [.int ((g2_bytes t) ((g2_first t) + v2_3).toNatClampNeg)]) rfl rfl (Nat.le_of_ble_eq_true rfl) ⟨Nat.zero_le _, Nat.zero_le _⟩ dX2_isWord_49 (fun H locs hP hD hS => ?_)
            refine W.eq (g2 := F0 m 52 ls [.int (st_ch i v2_3), .int ((g2_bytes t) ((g2_first t) + v2_3).toNatClampNeg)]) rfl ?_
            refine lv_icmp_eq (tgt := 57) hx hb dX2_isWord_52 (by decide) (fun c7 => ?_) (fun c7 => ?_)
            · have hf := ip c7 hf
              refine lv_iinc (v := (v2_3 + (1 : Int32))) (lv' := [(2, .int (v2_3 + (1 : Int32))), (0, .ref (a 0)), (1, .ref (E.2.2.2.1 i))]) hx hb dX2_isWord_57 hl (k := 0) rfl rfl (by decide) rfl (fun ls hl => ?_)
              refine lv_goto (tgt := 28) hx hb dX2_isWord_60 (by decide) ?_
              exact ih_3 _ hf _ _ _ hP hD hS (lv_sub hl [0, 1, 2] rfl)
            · have hf := im c7 hf
              refine lv_iconst (v := (0 : Int32)) hx hb dX2_isWord_55 (by decide) ?_
              obtain rfl := so1 hf
              exact rt_z (bI_nar _) hx hb hr hlocks hP hD hS dX2_isWord_56
      exact L_3 _ _ hf _ _ _ hP hD hS (lv_sub hl [0, 1, 2] rfl)
    · have hf := im c2 hf
      refine lv_iconst (v := (0 : Int32)) hx hb dX2_isWord_24 (by decide) ?_
      obtain rfl := so1 hf
      exact rt_z (bI_nar _) hx hb hr hlocks hP hD hS dX2_isWord_25
def f_X2_nameOfKind (p1 : Int32) : Option (Nat) := if p1 = (1 : Int32) then some (8) else if p1 = (2 : Int32) then some (9) else if p1 = (3 : Int32) then some (10) else if p1 = (4 : Int32) then some (11) else if p1 = (5 : Int32) then some (12) else some (13)
set_option maxHeartbeats 1000000 in
set_option maxRecDepth 100000 in
theorem c_X2_nameOfKind (l : Launch) (E : EV)  (p1 : Int32)  (r : Nat) (hf : f_X2_nameOfKind p1 = some r) : Ct l E yX2_nameOfKind cX2_nameOfKind 1 ((Option.some (FieldType.object "java/lang/String"))) (rmk 0 0) [.int p1] ([] : va_W) ([] : va_W) (some (.ref (E.2.2.2.1 r))) := by
  refine Ct.of (by decide) (Nat.le_of_ble_eq_true rfl) ?_
  intro p e s m below meth c A ls hC hP hD hl
  obtain ⟨hx, hb, hr, hml, hown, hlocks, hE, hA⟩ := hC
  have hts : ∀ w ∈ tbl, w.before [.int p1].toArray s = true := fun w hw => hE.w hw
  have hS : va_S A s.heap s.heap [] := va_S.rf
  have hl : lv_has ls 1 [(0, .int p1)] := hl
  unfold f_X2_nameOfKind at hf
  refine lv_iload_n hx hb dX2_nameOfKind_0 rfl (lv_at hl 0 rfl) ?_
  by_cases c1 : p1 = (1 : Int32)
  · have hf := ip c1 hf
    refine lv_tableIn (off := 35) (tgt := 36) hx hb dX2_nameOfKind_1 (by rw [c1]; decide) (by rw [c1]; decide) (by rw [c1]; rfl) (by decide) ?_
    refine va_ldcS hx hb hown (hE.2.2.2.2.2.2.2 8 (by decide)) dX2_nameOfKind_36 ?_
    obtain rfl := so1 hf
    exact rt_a (Or.inl ⟨_, rfl⟩) hx hb hr hlocks hP hD hS dX2_nameOfKind_38
  have hf := im c1 hf
  by_cases c2 : p1 = (2 : Int32)
  · have hf := ip c2 hf
    refine lv_tableIn (off := 38) (tgt := 39) hx hb dX2_nameOfKind_1 (by rw [c2]; decide) (by rw [c2]; decide) (by rw [c2]; rfl) (by decide) ?_
    refine va_ldcS hx hb hown (hE.2.2.2.2.2.2.2 9 (by decide)) dX2_nameOfKind_39 ?_
    obtain rfl := so1 hf
    exact rt_a (Or.inl ⟨_, rfl⟩) hx hb hr hlocks hP hD hS dX2_nameOfKind_41
  have hf := im c2 hf
  by_cases c3 : p1 = (3 : Int32)
  · have hf := ip c3 hf
    refine lv_tableIn (off := 41) (tgt := 42) hx hb dX2_nameOfKind_1 (by rw [c3]; decide) (by rw [c3]; decide) (by rw [c3]; rfl) (by decide) ?_
    refine va_ldcS hx hb hown (hE.2.2.2.2.2.2.2 10 (by decide)) dX2_nameOfKind_42 ?_
    obtain rfl := so1 hf
    exact rt_a (Or.inl ⟨_, rfl⟩) hx hb hr hlocks hP hD hS dX2_nameOfKind_44
  have hf := im c3 hf
  by_cases c4 : p1 = (4 : Int32)
  · have hf := ip c4 hf
    refine lv_tableIn (off := 44) (tgt := 45) hx hb dX2_nameOfKind_1 (by rw [c4]; decide) (by rw [c4]; decide) (by rw [c4]; rfl) (by decide) ?_
    refine va_ldcS hx hb hown (hE.2.2.2.2.2.2.2 11 (by decide)) dX2_nameOfKind_45 ?_
    obtain rfl := so1 hf
    exact rt_a (Or.inl ⟨_, rfl⟩) hx hb hr hlocks hP hD hS dX2_nameOfKind_47
  have hf := im c4 hf
  by_cases c5 : p1 = (5 : Int32)
  · have hf := ip c5 hf
    refine lv_tableIn (off := 47) (tgt := 48) hx hb dX2_nameOfKind_1 (by rw [c5]; decide) (by rw [c5]; decide) (by rw [c5]; rfl) (by decide) ?_
    refine va_ldcS hx hb hown (hE.2.2.2.2.2.2.2 12 (by decide)) dX2_nameOfKind_48 ?_
    obtain rfl := so1 hf
    exact rt_a (Or.inl ⟨_, rfl⟩) hx hb hr hlocks hP hD hS dX2_nameOfKind_50
  have hf := im c5 hf
  refine lv_tableOut (tgt := 51) hx hb dX2_nameOfKind_1 (by have zc1 := lv_neT c1 (a := 1) (by decide); have zc2 := lv_neT c2 (a := 2) (by decide); have zc3 := lv_neT c3 (a := 3) (by decide); have zc4 := lv_neT c4 (a := 4) (by decide); have zc5 := lv_neT c5 (a := 5) (by decide); omega) (by decide) ?_
  refine va_ldcS hx hb hown (hE.2.2.2.2.2.2.2 13 (by decide)) dX2_nameOfKind_51 ?_
  obtain rfl := so1 hf
  exact rt_a (Or.inl ⟨_, rfl⟩) hx hb hr hlocks hP hD hS dX2_nameOfKind_53
theorem f_X2_nameOfKind_lt {p1 : Int32} {r : Nat} (h : f_X2_nameOfKind p1 = some r) : r < 15 := by
  unfold f_X2_nameOfKind at h
  repeat' split at h
  all_goals (obtain rfl := so1 h; decide)
def f_X2_nameOfCue (p1 : Int32) : Option (Nat) := if p1 = (1 : Int32) then some (1) else if p1 = (2 : Int32) then some (2) else if p1 = (3 : Int32) then some (3) else if p1 = (4 : Int32) then some (4) else some (5)
set_option maxHeartbeats 1000000 in
set_option maxRecDepth 100000 in
theorem c_X2_nameOfCue (l : Launch) (E : EV)  (p1 : Int32)  (r : Nat) (hf : f_X2_nameOfCue p1 = some r) : Ct l E yX2_nameOfCue cX2_nameOfCue 1 ((Option.some (FieldType.object "java/lang/String"))) (rmk 0 0) [.int p1] ([] : va_W) ([] : va_W) (some (.ref (E.2.2.2.1 r))) := by
  refine Ct.of (by decide) (Nat.le_of_ble_eq_true rfl) ?_
  intro p e s m below meth c A ls hC hP hD hl
  obtain ⟨hx, hb, hr, hml, hown, hlocks, hE, hA⟩ := hC
  have hts : ∀ w ∈ tbl, w.before [.int p1].toArray s = true := fun w hw => hE.w hw
  have hS : va_S A s.heap s.heap [] := va_S.rf
  have hl : lv_has ls 1 [(0, .int p1)] := hl
  unfold f_X2_nameOfCue at hf
  refine lv_iload_n hx hb dX2_nameOfCue_0 rfl (lv_at hl 0 rfl) ?_
  by_cases c1 : p1 = (1 : Int32)
  · have hf := ip c1 hf
    refine lv_tableIn (off := 31) (tgt := 32) hx hb dX2_nameOfCue_1 (by rw [c1]; decide) (by rw [c1]; decide) (by rw [c1]; rfl) (by decide) ?_
    refine va_ldcS hx hb hown (hE.2.2.2.2.2.2.2 1 (by decide)) dX2_nameOfCue_32 ?_
    obtain rfl := so1 hf
    exact rt_a (Or.inl ⟨_, rfl⟩) hx hb hr hlocks hP hD hS dX2_nameOfCue_34
  have hf := im c1 hf
  by_cases c2 : p1 = (2 : Int32)
  · have hf := ip c2 hf
    refine lv_tableIn (off := 34) (tgt := 35) hx hb dX2_nameOfCue_1 (by rw [c2]; decide) (by rw [c2]; decide) (by rw [c2]; rfl) (by decide) ?_
    refine va_ldcS hx hb hown (hE.2.2.2.2.2.2.2 2 (by decide)) dX2_nameOfCue_35 ?_
    obtain rfl := so1 hf
    exact rt_a (Or.inl ⟨_, rfl⟩) hx hb hr hlocks hP hD hS dX2_nameOfCue_37
  have hf := im c2 hf
  by_cases c3 : p1 = (3 : Int32)
  · have hf := ip c3 hf
    refine lv_tableIn (off := 37) (tgt := 38) hx hb dX2_nameOfCue_1 (by rw [c3]; decide) (by rw [c3]; decide) (by rw [c3]; rfl) (by decide) ?_
    refine va_ldcS hx hb hown (hE.2.2.2.2.2.2.2 3 (by decide)) dX2_nameOfCue_38 ?_
    obtain rfl := so1 hf
    exact rt_a (Or.inl ⟨_, rfl⟩) hx hb hr hlocks hP hD hS dX2_nameOfCue_40
  have hf := im c3 hf
  by_cases c4 : p1 = (4 : Int32)
  · have hf := ip c4 hf
    refine lv_tableIn (off := 40) (tgt := 41) hx hb dX2_nameOfCue_1 (by rw [c4]; decide) (by rw [c4]; decide) (by rw [c4]; rfl) (by decide) ?_
    refine va_ldcS hx hb hown (hE.2.2.2.2.2.2.2 4 (by decide)) dX2_nameOfCue_41 ?_
    obtain rfl := so1 hf
    exact rt_a (Or.inl ⟨_, rfl⟩) hx hb hr hlocks hP hD hS dX2_nameOfCue_43
  have hf := im c4 hf
  refine lv_tableOut (tgt := 44) hx hb dX2_nameOfCue_1 (by have zc1 := lv_neT c1 (a := 1) (by decide); have zc2 := lv_neT c2 (a := 2) (by decide); have zc3 := lv_neT c3 (a := 3) (by decide); have zc4 := lv_neT c4 (a := 4) (by decide); omega) (by decide) ?_
  refine va_ldcS hx hb hown (hE.2.2.2.2.2.2.2 5 (by decide)) dX2_nameOfCue_44 ?_
  obtain rfl := so1 hf
  exact rt_a (Or.inl ⟨_, rfl⟩) hx hb hr hlocks hP hD hS dX2_nameOfCue_46
theorem f_X2_nameOfCue_lt {p1 : Int32} {r : Nat} (h : f_X2_nameOfCue p1 = some r) : r < 15 := by
  unfold f_X2_nameOfCue at h
  repeat' split at h
  all_goals (obtain rfl := so1 h; decide)
def lp_X2_kindNamed_2 (t : TS) : Nat → (Int32) → Option (Int32)
  | 0, _ => none
  | k_1 + 1, v1_1 => if (6 : Int32) ≤ v1_1 then some ((-1 : Int32)) else bd1 (f_X2_nameOfKind v1_1) (fun r4 => bd1 (f_X2_isWord t r4) (fun r7 => if (bI r7) = 0 then lp_X2_kindNamed_2 t k_1 (v1_1 + (1 : Int32)) else some (v1_1)))
def f_X2_kindNamed (t : TS) : Option (Int32) := lp_X2_kindNamed_2 t FU (0 : Int32)
set_option maxHeartbeats 1000000 in
set_option maxRecDepth 100000 in
theorem c_X2_kindNamed (l : Launch) (E : EV) (a : Nat → Nat) (t : TS)  (r : Int32) (hf : f_X2_kindNamed t = some r) : Ct l E yX2_kindNamed cX2_kindNamed 2 ((Option.some FieldType.int)) (rmk 5 107) [.ref (a 0)] (wX2 E a t) (wX2 E a t) (some (.int r)) := by
  refine Ct.of (by decide) (Nat.le_of_ble_eq_true rfl) ?_
  intro p e s m below meth c A ls hC hP hD hl
  obtain ⟨hx, hb, hr, hml, hown, hlocks, hE, hA⟩ := hC
  have hts : ∀ w ∈ tbl, w.before [.ref (a 0)].toArray s = true := fun w hw => hE.w hw
  have hS : va_S A s.heap s.heap [] := va_S.rf
  have hl : lv_has ls 2 [(0, .ref (a 0))] := hl
  unfold f_X2_kindNamed at hf
  refine lv_iconst (v := (0 : Int32)) hx hb dX2_kindNamed_0 (by decide) ?_
  refine lv_istore_n (lv' := [(1, .int (0 : Int32)), (0, .ref (a 0))]) hx hb dX2_kindNamed_1 rfl hl (by decide) rfl (fun ls hl => ?_)
  have L_1 : ∀ (k_1 : Nat) (v1_1 : Int32), lp_X2_kindNamed_2 t k_1 v1_1 = some r → ∀ (H : Heap) (locs : List Loc) (ls : Array Slot), va_P E.1 vwCl (wX2 E a t) H → va_D A (wX2 E a t) → va_S A s.heap H locs → lv_has ls 2 [(1, .int v1_1), (0, .ref (a 0))] → W p l e (rmk 5 107) s m [.ref (a 0)].toArray below meth c H locs 0 0 (MQ below (Qct E A (wX2 E a t) (some (.int r))) [.ref (a 0)].toArray s 0 0 A) (F0 m 2 ls []) := by
    intro k_1
    induction k_1 with
    | zero =>
      intro v1_1 hf
      rw [lp_X2_kindNamed_2] at hf
      cases hf
    | succ k_1 ih_1 =>
      intro v1_1 hf H locs ls hP hD hS hl
      rw [lp_X2_kindNamed_2] at hf
      refine lv_iload_n hx hb dX2_kindNamed_2 rfl (lv_at hl 0 rfl) ?_
      refine lv_bipush (v := (6 : Int32)) hx hb dX2_kindNamed_3 (by decide) ?_
      refine lv_icmp_ge (tgt := 27) hx hb dX2_kindNamed_5 (by decide) (fun c2 => ?_) (fun c2 => ?_)
      · have hf := ip c2 hf
        refine lv_iconst (v := (-1 : Int32)) hx hb dX2_kindNamed_27 (by decide) ?_
        obtain rfl := so1 hf
        exact rt_i hx hb hr hlocks hP hD hS dX2_kindNamed_28
      · have hf := im c2 hf
        refine lv_aload_n hx hb dX2_kindNamed_8 rfl (lv_at hl 1 rfl) ?_
        refine lv_iload_n hx hb dX2_kindNamed_9 rfl (lv_at hl 0 rfl) ?_
        obtain ⟨r4, hc3, hf⟩ := bd1_some hf
        refine cS (X := List.take 0 (wX2 E a t)) (Y := List.drop 0 (wX2 E a t)) (w := (wX2 E a t)) (w' := (wX2 E a t)) lk_X2_96 hx hb hml hown hE hA (c_X2_nameOfKind l E v1_1 r4 hc3) rfl rfl hP hD hS ⟨rfl, rfl, Nat.le_of_ble_eq_true rfl, Nat.le_of_ble_eq_true rfl⟩ hl.1 (As := [.int v1_1]) (rest := [.ref (a 0)]) rfl rfl (Nat.le_of_ble_eq_true rfl) ⟨Nat.zero_le _, Nat.zero_le _⟩ dX2_kindNamed_10 (fun H locs hP hD hS => ?_)
        have hi5 : r4 < 15 := f_X2_nameOfKind_lt hc3
        refine W.eq (g2 := F0 m 13 ls [.ref (E.2.2.2.1 r4), .ref (a 0)]) rfl ?_
        obtain ⟨r7, hc6, hf⟩ := bd1_some hf
        refine cV (X := List.take 0 (wX2 E a t)) (Y := List.drop 2 (wX2 E a t)) (w := (wX2 E a t)) (w' := (wX2 E a t)) (q0 := 0) lk_X2_40 hx hb hml hown hE hA (c_X2_isWord l E a t r4 hi5 r7 hc6) rfl rfl hP hD hS rfl rfl ⟨rfl, rfl, Nat.le_of_ble_eq_true rfl, Nat.le_of_ble_eq_true rfl⟩ hl.1 (As := [.ref (E.2.2.2.1 r4)]) (rest := []) rfl rfl (Nat.le_of_ble_eq_true rfl) ⟨Nat.zero_le _, Nat.zero_le _⟩ dX2_kindNamed_13 (fun H locs hP hD hS => ?_)
        refine W.eq (g2 := F0 m 16 ls [.int (bI r7)]) rfl ?_
        refine lv_if_eq (tgt := 21) hx hb dX2_kindNamed_16 (by decide) (fun c8 => ?_) (fun c8 => ?_)
        · have hf := ip c8 hf
          refine lv_iinc (v := (v1_1 + (1 : Int32))) (lv' := [(1, .int (v1_1 + (1 : Int32))), (0, .ref (a 0))]) hx hb dX2_kindNamed_21 hl (k := 0) rfl rfl (by decide) rfl (fun ls hl => ?_)
          refine lv_goto (tgt := 2) hx hb dX2_kindNamed_24 (by decide) ?_
          exact ih_1 _ hf _ _ _ hP hD hS (lv_sub hl [0, 1] rfl)
        · have hf := im c8 hf
          refine lv_iload_n hx hb dX2_kindNamed_19 rfl (lv_at hl 0 rfl) ?_
          obtain rfl := so1 hf
          exact rt_i hx hb hr hlocks hP hD hS dX2_kindNamed_20
  exact L_1 _ _ hf _ _ _ hP hD hS (lv_sub hl [0, 1] rfl)
def lp_X2_cueNamed_2 (t : TS) : Nat → (Int32) → Option (Int32)
  | 0, _ => none
  | k_1 + 1, v1_1 => if (4 : Int32) < v1_1 then some ((-1 : Int32)) else bd1 (f_X2_nameOfCue v1_1) (fun r4 => bd1 (f_X2_isWord t r4) (fun r7 => if (bI r7) = 0 then lp_X2_cueNamed_2 t k_1 (v1_1 + (1 : Int32)) else some (v1_1)))
def f_X2_cueNamed (t : TS) : Option (Int32) := lp_X2_cueNamed_2 t FU (0 : Int32)
set_option maxHeartbeats 1000000 in
set_option maxRecDepth 100000 in
theorem c_X2_cueNamed (l : Launch) (E : EV) (a : Nat → Nat) (t : TS)  (r : Int32) (hf : f_X2_cueNamed t = some r) : Ct l E yX2_cueNamed cX2_cueNamed 2 ((Option.some FieldType.int)) (rmk 5 107) [.ref (a 0)] (wX2 E a t) (wX2 E a t) (some (.int r)) := by
  refine Ct.of (by decide) (Nat.le_of_ble_eq_true rfl) ?_
  intro p e s m below meth c A ls hC hP hD hl
  obtain ⟨hx, hb, hr, hml, hown, hlocks, hE, hA⟩ := hC
  have hts : ∀ w ∈ tbl, w.before [.ref (a 0)].toArray s = true := fun w hw => hE.w hw
  have hS : va_S A s.heap s.heap [] := va_S.rf
  have hl : lv_has ls 2 [(0, .ref (a 0))] := hl
  unfold f_X2_cueNamed at hf
  refine lv_iconst (v := (0 : Int32)) hx hb dX2_cueNamed_0 (by decide) ?_
  refine lv_istore_n (lv' := [(1, .int (0 : Int32)), (0, .ref (a 0))]) hx hb dX2_cueNamed_1 rfl hl (by decide) rfl (fun ls hl => ?_)
  have L_1 : ∀ (k_1 : Nat) (v1_1 : Int32), lp_X2_cueNamed_2 t k_1 v1_1 = some r → ∀ (H : Heap) (locs : List Loc) (ls : Array Slot), va_P E.1 vwCl (wX2 E a t) H → va_D A (wX2 E a t) → va_S A s.heap H locs → lv_has ls 2 [(1, .int v1_1), (0, .ref (a 0))] → W p l e (rmk 5 107) s m [.ref (a 0)].toArray below meth c H locs 0 0 (MQ below (Qct E A (wX2 E a t) (some (.int r))) [.ref (a 0)].toArray s 0 0 A) (F0 m 2 ls []) := by
    intro k_1
    induction k_1 with
    | zero =>
      intro v1_1 hf
      rw [lp_X2_cueNamed_2] at hf
      cases hf
    | succ k_1 ih_1 =>
      intro v1_1 hf H locs ls hP hD hS hl
      rw [lp_X2_cueNamed_2] at hf
      refine lv_iload_n hx hb dX2_cueNamed_2 rfl (lv_at hl 0 rfl) ?_
      refine lv_iconst (v := (4 : Int32)) hx hb dX2_cueNamed_3 (by decide) ?_
      refine lv_icmp_gt (tgt := 26) hx hb dX2_cueNamed_4 (by decide) (fun c2 => ?_) (fun c2 => ?_)
      · have hf := ip c2 hf
        refine lv_iconst (v := (-1 : Int32)) hx hb dX2_cueNamed_26 (by decide) ?_
        obtain rfl := so1 hf
        exact rt_i hx hb hr hlocks hP hD hS dX2_cueNamed_27
      · have hf := im c2 hf
        refine lv_aload_n hx hb dX2_cueNamed_7 rfl (lv_at hl 1 rfl) ?_
        refine lv_iload_n hx hb dX2_cueNamed_8 rfl (lv_at hl 0 rfl) ?_
        obtain ⟨r4, hc3, hf⟩ := bd1_some hf
        refine cS (X := List.take 0 (wX2 E a t)) (Y := List.drop 0 (wX2 E a t)) (w := (wX2 E a t)) (w' := (wX2 E a t)) lk_X2_100 hx hb hml hown hE hA (c_X2_nameOfCue l E v1_1 r4 hc3) rfl rfl hP hD hS ⟨rfl, rfl, Nat.le_of_ble_eq_true rfl, Nat.le_of_ble_eq_true rfl⟩ hl.1 (As := [.int v1_1]) (rest := [.ref (a 0)]) rfl rfl (Nat.le_of_ble_eq_true rfl) ⟨Nat.zero_le _, Nat.zero_le _⟩ dX2_cueNamed_9 (fun H locs hP hD hS => ?_)
        have hi5 : r4 < 15 := f_X2_nameOfCue_lt hc3
        refine W.eq (g2 := F0 m 12 ls [.ref (E.2.2.2.1 r4), .ref (a 0)]) rfl ?_
        obtain ⟨r7, hc6, hf⟩ := bd1_some hf
        refine cV (X := List.take 0 (wX2 E a t)) (Y := List.drop 2 (wX2 E a t)) (w := (wX2 E a t)) (w' := (wX2 E a t)) (q0 := 0) lk_X2_40 hx hb hml hown hE hA (c_X2_isWord l E a t r4 hi5 r7 hc6) rfl rfl hP hD hS rfl rfl ⟨rfl, rfl, Nat.le_of_ble_eq_true rfl, Nat.le_of_ble_eq_true rfl⟩ hl.1 (As := [.ref (E.2.2.2.1 r4)]) (rest := []) rfl rfl (Nat.le_of_ble_eq_true rfl) ⟨Nat.zero_le _, Nat.zero_le _⟩ dX2_cueNamed_12 (fun H locs hP hD hS => ?_)
        refine W.eq (g2 := F0 m 15 ls [.int (bI r7)]) rfl ?_
        refine lv_if_eq (tgt := 20) hx hb dX2_cueNamed_15 (by decide) (fun c8 => ?_) (fun c8 => ?_)
        · have hf := ip c8 hf
          refine lv_iinc (v := (v1_1 + (1 : Int32))) (lv' := [(1, .int (v1_1 + (1 : Int32))), (0, .ref (a 0))]) hx hb dX2_cueNamed_20 hl (k := 0) rfl rfl (by decide) rfl (fun ls hl => ?_)
          refine lv_goto (tgt := 2) hx hb dX2_cueNamed_23 (by decide) ?_
          exact ih_1 _ hf _ _ _ hP hD hS (lv_sub hl [0, 1] rfl)
        · have hf := im c8 hf
          refine lv_iload_n hx hb dX2_cueNamed_18 rfl (lv_at hl 0 rfl) ?_
          obtain rfl := so1 hf
          exact rt_i hx hb hr hlocks hP hD hS dX2_cueNamed_19
  exact L_1 _ _ hf _ _ _ hP hD hS (lv_sub hl [0, 1] rfl)
