def lp_X3_cue_25 (p1 : Int32) : Nat → (Int32) → (Int32) → (Int32) → (NS) → Option (Int32 × NS)
  | 0, _, _, _, _ => none
  | k_4 + 1, v4_4, v3_4, v2_4, n_4 => if (80 : Int32) ≤ v4_4 then some (v3_4, n_4) else bd1 (f_X3_startTrial n_4) (fun n7 => gd (v4_4 - (v4_4 / (16 : Int32)) * (16 : Int32)) 16 (jn1 (s3_trial n7 (s0_cues (g3_trial n7) (upd (g0_cues (g3_trial n7)) (v4_4 - (v4_4 / (16 : Int32)) * (16 : Int32)).toNatClampNeg (v4_4 / (16 : Int32))))) (fun n_9 => bd2 (f_X0_allNotesOn (g3_trial n_9) p1) (fun r11 h12 => jn1 (s3_trial n_9 h12) (fun n_13 => jn2 (if r11 ≤ v2_4 then (v3_4, v2_4) else (v4_4, r11)) (fun x15 x16 => lp_X3_cue_25 p1 k_4 (v4_4 + (1 : Int32)) x15 x16 n_13))))))
def f_X3_cue (n : NS) (p1 : Int32) : Option (Int32 × NS) := bd1 (f_X3_isIn p1 (1 : Int32) (60 : Int32)) (fun r2 => if (bI r2) = 0 then bd2 (f_X3_finding n (-1000000001 : Int32)) (fun r20 n21 => some (r20, n21)) else lp_X3_cue_25 p1 FU (0 : Int32) (0 : Int32) (-79993 : Int32) n)
set_option maxHeartbeats 4000000 in
set_option maxRecDepth 100000 in
theorem c_X3_cue (l : Launch) (E : EV) (a : Nat → Nat → Nat) (n : NS) (p1 : Int32)  (r : Int32) (n' : NS) (hf : f_X3_cue n p1 = some (r, n')) : Ct l E yX3_cue cX3_cue 6 ((Option.some FieldType.int)) (rmk 6 129) [.ref ((a 8) 0), .int p1] (wX3 E a n) (wX3 E a n') (some (.int r)) := by
  refine Ct.of (by decide) (Nat.le_of_ble_eq_true rfl) ?_
  intro p e s m below meth c A ls hC hP hD hl
  obtain ⟨hx, hb, hr, hml, hown, hlocks, hE, hA⟩ := hC
  have hts : ∀ w ∈ tbl, w.before [.ref ((a 8) 0), .int p1].toArray s = true := fun w hw => hE.w hw
  have hS : va_S A s.heap s.heap [] := va_S.rf
  have hl : lv_has ls 6 [(0, .ref ((a 8) 0)), (1, .int p1)] := hl
  unfold f_X3_cue at hf
  refine lv_iload_n hx hb dX3_cue_0 rfl (lv_at hl 1 rfl) ?_
  refine lv_iconst (v := (1 : Int32)) hx hb dX3_cue_1 (by decide) ?_
  refine lv_bipush (v := (60 : Int32)) hx hb dX3_cue_2 (by decide) ?_
  obtain ⟨r2, hc1, hf⟩ := bd1_some hf
  refine cS (X := List.take 0 (wX3 E a n)) (Y := List.drop 0 (wX3 E a n)) (w := (wX3 E a n)) (w' := (wX3 E a n)) lk_X3_44 hx hb hml hown hE hA (c_X3_isIn l E p1 (1 : Int32) (60 : Int32) r2 hc1) rfl rfl hP hD hS ⟨rfl, rfl, Nat.le_of_ble_eq_true rfl, Nat.le_of_ble_eq_true rfl⟩ hl.1 (As := [.int p1, .int (1 : Int32), .int (60 : Int32)]) (rest := []) rfl rfl (Nat.le_of_ble_eq_true rfl) ⟨Nat.zero_le _, Nat.zero_le _⟩ dX3_cue_4 (fun H locs hP hD hS => ?_)
  refine W.eq (g2 := F0 m 7 ls [.int (bI r2)]) rfl ?_
  refine lv_if_ne (tgt := 17) hx hb dX3_cue_7 (by decide) (fun c3 => ?_) (fun c3 => ?_)
  · have hf := im c3 hf
    refine lv_ldc (v := (-79993 : Int32)) hx hb hown (hE.w tw_349) dX3_cue_17 ?_
    refine lv_istore_n (lv' := [(2, .int (-79993 : Int32)), (0, .ref ((a 8) 0)), (1, .int p1)]) hx hb dX3_cue_19 rfl hl (by decide) rfl (fun ls hl => ?_)
    refine lv_iconst (v := (0 : Int32)) hx hb dX3_cue_20 (by decide) ?_
    refine lv_istore_n (lv' := [(3, .int (0 : Int32)), (2, .int (-79993 : Int32)), (0, .ref ((a 8) 0)), (1, .int p1)]) hx hb dX3_cue_21 rfl hl (by decide) rfl (fun ls hl => ?_)
    refine lv_iconst (v := (0 : Int32)) hx hb dX3_cue_22 (by decide) ?_
    refine lv_istore (lv' := [(4, .int (0 : Int32)), (3, .int (0 : Int32)), (2, .int (-79993 : Int32)), (0, .ref ((a 8) 0)), (1, .int p1)]) hx hb dX3_cue_23 hl (by decide) rfl (fun ls hl => ?_)
    have L_4 : ∀ (k_4 : Nat) (v4_4 : Int32) (v3_4 : Int32) (v2_4 : Int32) (n_4 : NS), lp_X3_cue_25 p1 k_4 v4_4 v3_4 v2_4 n_4 = some (r, n') → ∀ (H : Heap) (locs : List Loc) (ls : Array Slot), va_P E.1 vwCl (wX3 E a n_4) H → va_D A (wX3 E a n_4) → va_S A s.heap H locs → lv_has ls 6 [(4, .int v4_4), (3, .int v3_4), (2, .int v2_4), (0, .ref ((a 8) 0)), (1, .int p1)] → W p l e (rmk 6 129) s m [.ref ((a 8) 0), .int p1].toArray below meth c H locs 0 0 (MQ below (Qct E A (wX3 E a n') (some (.int r))) [.ref ((a 8) 0), .int p1].toArray s 0 0 A) (F0 m 25 ls []) := by
      intro k_4
      induction k_4 with
      | zero =>
        intro v4_4 v3_4 v2_4 n_4 hf
        rw [lp_X3_cue_25] at hf
        cases hf
      | succ k_4 ih_4 =>
        intro v4_4 v3_4 v2_4 n_4 hf H locs ls hP hD hS hl
        rw [lp_X3_cue_25] at hf
        refine lv_iload hx hb dX3_cue_25 (lv_at hl 0 rfl) ?_
        refine lv_bipush (v := (80 : Int32)) hx hb dX3_cue_27 (by decide) ?_
        refine lv_icmp_ge (tgt := 82) hx hb dX3_cue_29 (by decide) (fun c5 => ?_) (fun c5 => ?_)
        · have hf := ip c5 hf
          refine lv_iload_n hx hb dX3_cue_82 rfl (lv_at hl 1 rfl) ?_
          obtain ⟨rfl, rfl⟩ := so2 hf
          exact rt_i hx hb hr hlocks hP hD hS dX3_cue_83
        · have hf := im c5 hf
          refine lv_aload_n hx hb dX3_cue_32 rfl (lv_at hl 3 rfl) ?_
          obtain ⟨n7, hc6, hf⟩ := bd1_some hf
          refine cV (X := List.take 0 (wX3 E a n_4)) (Y := List.drop 37 (wX3 E a n_4)) (w := (wX3 E a n_4)) (w' := (wX3 E a n7)) (q0 := 0) lk_X3_124 hx hb hml hown hE hA (c_X3_startTrial l E a n_4 n7 hc6) rfl rfl hP hD hS rfl rfl ⟨rfl, rfl, Nat.le_of_ble_eq_true rfl, Nat.le_of_ble_eq_true rfl⟩ hl.1 (As := []) (rest := []) rfl rfl (Nat.le_of_ble_eq_true rfl) ⟨Nat.zero_le _, Nat.zero_le _⟩ dX3_cue_33 (fun H locs hP hD hS => ?_)
          refine W.eq (g2 := F0 m 36 ls []) rfl ?_
          refine lv_aload_n hx hb dX3_cue_36 rfl (lv_at hl 3 rfl) ?_
          refine va_get (D := E.1) (ci := 3) (v := .ref ((a 1) 0)) (C := RX3) (T := TX3) (N := 7) hx hb hts inX3 hown hE.2.1 hP 0 rfl rfl 1 (by decide) (hE.w tw_120) (fun _ h9 => h9) rfl dX3_cue_37 ?_
          refine va_getN (D := E.1) (ci := 0) (v := .ref ((a 1) 4)) (C := RX0) (T := TX0) (N := 10) hx hb hts inX0 hown hE.2.1 hP 17 rfl rfl 3 (by decide) (hE.w tw_34) (fun _ h9 => h9) rfl dX3_cue_40 ?_
          refine lv_iload hx hb dX3_cue_43 (lv_at hl 0 rfl) ?_
          refine lv_bipush (v := (16 : Int32)) hx hb dX3_cue_45 (by decide) ?_
          refine lv_irem hx hb dX3_cue_47 (by decide) ?_
          refine lv_iload hx hb dX3_cue_48 (lv_at hl 0 rfl) ?_
          refine lv_bipush (v := (16 : Int32)) hx hb dX3_cue_50 (by decide) ?_
          refine lv_idiv hx hb dX3_cue_52 (by decide) ?_
          obtain ⟨hg8, hf⟩ := gd_some hf
          obtain ⟨n_9, en_9, hf⟩ := jn1_some hf
          refine va_iast hx hb hE.2.1 hP hD hS 18 0 rfl rfl hg8 dX3_cue_53 (fun H locs hP hD hS => ?_)
          have hP : va_P E.1 vwCl (wX3 E a n_9) H := wst (by rw [en_9]; exact rfl) hP
          have hD : va_D A (wX3 E a n_9) := wsd (by rw [en_9]; exact rfl) hD
          refine lv_aload_n hx hb dX3_cue_54 rfl (lv_at hl 3 rfl) ?_
          refine va_get (D := E.1) (ci := 3) (v := .ref ((a 1) 0)) (C := RX3) (T := TX3) (N := 7) hx hb hts inX3 hown hE.2.1 hP 0 rfl rfl 1 (by decide) (hE.w tw_120) (fun _ h9 => h9) rfl dX3_cue_55 ?_
          refine lv_iload_n hx hb dX3_cue_58 rfl (lv_at hl 4 rfl) ?_
          obtain ⟨r11, h12, hc10, hf⟩ := bd2_some hf
          obtain ⟨n_13, en_13, hf⟩ := jn1_some hf
          refine cVN (X := List.take 17 (wX3 E a n_9)) (Y := List.drop 25 (wX3 E a n_9)) (w := (wX3 E a n_9)) (w' := (wX3 E a n_13)) (q0 := 0) lk_X3_127 hx hb hml hown hE hA (c_X0_allNotesOn l E (a 1) (g3_trial n_9) p1 r11 h12 hc10) rfl (by rw [en_13]; rfl) hP hD hS rfl rfl ⟨rfl, rfl, Nat.le_of_ble_eq_true rfl, Nat.le_of_ble_eq_true rfl⟩ hl.1 (As := [.int p1]) (rest := []) rfl rfl (Nat.le_of_ble_eq_true rfl) ⟨Nat.zero_le _, Nat.zero_le _⟩ dX3_cue_59 (fun H locs hP hD hS => ?_)
          refine W.eq (g2 := F0 m 62 ls [.int r11]) rfl ?_
          refine lv_istore (lv' := [(5, .int r11), (4, .int v4_4), (3, .int v3_4), (2, .int v2_4), (0, .ref ((a 8) 0)), (1, .int p1)]) hx hb dX3_cue_62 hl (by decide) rfl (fun ls hl => ?_)
          refine lv_iload hx hb dX3_cue_64 (lv_at hl 0 rfl) ?_
          refine lv_iload_n hx hb dX3_cue_66 rfl (lv_at hl 3 rfl) ?_
          obtain ⟨x15, x16, hq18, hf⟩ := jn2_some hf
          have J17 : ∀ (H : Heap) (locs : List Loc) (ls : Array Slot), va_P E.1 vwCl (wX3 E a n_13) H → va_D A (wX3 E a n_13) → va_S A s.heap H locs → lv_has ls 6 [(5, .int r11), (4, .int v4_4), (3, .int x15), (2, .int x16), (0, .ref ((a 8) 0)), (1, .int p1)] → W p l e (rmk 6 129) s m [.ref ((a 8) 0), .int p1].toArray below meth c H locs 0 0 (MQ below (Qct E A (wX3 E a n') (some (.int r))) [.ref ((a 8) 0), .int p1].toArray s 0 0 A) (F0 m 76 ls []) := by
            intro H locs ls hP hD hS hl
            refine lv_iinc (v := (v4_4 + (1 : Int32))) (lv' := [(4, .int (v4_4 + (1 : Int32))), (5, .int r11), (3, .int x15), (2, .int x16), (0, .ref ((a 8) 0)), (1, .int p1)]) hx hb dX3_cue_76 hl (k := 1) rfl rfl (by decide) rfl (fun ls hl => ?_)
            refine lv_goto (tgt := 25) hx hb dX3_cue_79 (by decide) ?_
            exact ih_4 _ _ _ _ hf _ _ _ hP hD hS (lv_sub hl [0, 2, 3, 4, 5] rfl)
          refine lv_icmp_le (tgt := 76) hx hb dX3_cue_67 (by decide) (fun c14 => ?_) (fun c14 => ?_)
          · have hq18 := ie c14 hq18
            obtain ⟨rfl, rfl⟩ := pj2 hq18
            exact J17 _ _ _ hP hD hS (lv_sub hl [0, 1, 2, 3, 4, 5] rfl)
          · have hq18 := ien c14 hq18
            refine lv_iload hx hb dX3_cue_70 (lv_at hl 0 rfl) ?_
            refine lv_istore_n (lv' := [(2, .int r11), (5, .int r11), (4, .int v4_4), (3, .int v3_4), (0, .ref ((a 8) 0)), (1, .int p1)]) hx hb dX3_cue_72 rfl hl (by decide) rfl (fun ls hl => ?_)
            refine lv_iload hx hb dX3_cue_73 (lv_at hl 2 rfl) ?_
            refine lv_istore_n (lv' := [(3, .int v4_4), (2, .int r11), (5, .int r11), (4, .int v4_4), (0, .ref ((a 8) 0)), (1, .int p1)]) hx hb dX3_cue_75 rfl hl (by decide) rfl (fun ls hl => ?_)
            obtain ⟨rfl, rfl⟩ := pj2 hq18
            exact J17 _ _ _ hP hD hS (lv_sub hl [2, 3, 0, 1, 4, 5] rfl)
    exact L_4 _ _ _ _ _ hf _ _ _ hP hD hS (lv_sub hl [0, 1, 2, 3, 4] rfl)
  · have hf := ip c3 hf
    refine lv_aload_n hx hb dX3_cue_10 rfl (lv_at hl 0 rfl) ?_
    refine lv_ldc (v := (-1000000001 : Int32)) hx hb hown (hE.w tw_148) dX3_cue_11 ?_
    obtain ⟨r20, n21, hc19, hf⟩ := bd2_some hf
    refine cV (X := List.take 0 (wX3 E a n)) (Y := List.drop 37 (wX3 E a n)) (w := (wX3 E a n)) (w' := (wX3 E a n21)) (q0 := 0) lk_X3_49 hx hb hml hown hE hA (c_X3_finding l E a n (-1000000001 : Int32) r20 n21 hc19) rfl rfl hP hD hS rfl rfl ⟨rfl, rfl, Nat.le_of_ble_eq_true rfl, Nat.le_of_ble_eq_true rfl⟩ hl.1 (As := [.int (-1000000001 : Int32)]) (rest := []) rfl rfl (Nat.le_of_ble_eq_true rfl) ⟨Nat.zero_le _, Nat.zero_le _⟩ dX3_cue_13 (fun H locs hP hD hS => ?_)
    refine W.eq (g2 := F0 m 16 ls [.int r20]) rfl ?_
    obtain ⟨rfl, rfl⟩ := so2 hf
    exact rt_i hx hb hr hlocks hP hD hS dX3_cue_16
def lp_X3_doze_25 (p1 : Int32) : Nat → (Int32) → (Int32) → (Int32) → (NS) → Option (Int32 × NS)
  | 0, _, _, _, _ => none
  | k_4 + 1, v4_4, v3_4, v2_4, n_4 => if (g0_people (g3_house n_4)) ≤ v4_4 then if 0 ≤ v3_4 then some (v3_4, n_4) else bd2 (f_X3_finding n_4 (-1000000004 : Int32)) (fun r8 n9 => some (r8, n9)) else bd1 (f_X3_startTrial n_4) (fun n11 => gd v4_4 8 (jn1 (s3_trial n11 (s0_kinds (g3_trial n11) (upd (g0_kinds (g3_trial n11)) v4_4.toNatClampNeg (3 : Int32)))) (fun n_13 => bd2 (f_X0_allNotesOn (g3_trial n_13) p1) (fun r15 h16 => jn1 (s3_trial n_13 h16) (fun n_17 => jn2 (if v2_4 ≤ r15 then (v3_4, v2_4) else (v4_4, r15)) (fun x19 x20 => lp_X3_doze_25 p1 k_4 (v4_4 + (1 : Int32)) x19 x20 n_17))))))
def f_X3_doze (n : NS) (p1 : Int32) : Option (Int32 × NS) := bd1 (f_X3_isIn p1 (1 : Int32) (100 : Int32)) (fun r2 => if (bI r2) = 0 then bd2 (f_X3_finding n (-1000000001 : Int32)) (fun r24 n25 => some (r24, n25)) else lp_X3_doze_25 p1 FU (0 : Int32) (-1 : Int32) (79993 : Int32) n)
set_option maxHeartbeats 4000000 in
set_option maxRecDepth 100000 in
theorem c_X3_doze (l : Launch) (E : EV) (a : Nat → Nat → Nat) (n : NS) (p1 : Int32)  (r : Int32) (n' : NS) (hf : f_X3_doze n p1 = some (r, n')) : Ct l E yX3_doze cX3_doze 6 ((Option.some FieldType.int)) (rmk 6 129) [.ref ((a 8) 0), .int p1] (wX3 E a n) (wX3 E a n') (some (.int r)) := by
  refine Ct.of (by decide) (Nat.le_of_ble_eq_true rfl) ?_
  intro p e s m below meth c A ls hC hP hD hl
  obtain ⟨hx, hb, hr, hml, hown, hlocks, hE, hA⟩ := hC
  have hts : ∀ w ∈ tbl, w.before [.ref ((a 8) 0), .int p1].toArray s = true := fun w hw => hE.w hw
  have hS : va_S A s.heap s.heap [] := va_S.rf
  have hl : lv_has ls 6 [(0, .ref ((a 8) 0)), (1, .int p1)] := hl
  unfold f_X3_doze at hf
  refine lv_iload_n hx hb dX3_doze_0 rfl (lv_at hl 1 rfl) ?_
  refine lv_iconst (v := (1 : Int32)) hx hb dX3_doze_1 (by decide) ?_
  refine lv_bipush (v := (100 : Int32)) hx hb dX3_doze_2 (by decide) ?_
  obtain ⟨r2, hc1, hf⟩ := bd1_some hf
  refine cS (X := List.take 0 (wX3 E a n)) (Y := List.drop 0 (wX3 E a n)) (w := (wX3 E a n)) (w' := (wX3 E a n)) lk_X3_44 hx hb hml hown hE hA (c_X3_isIn l E p1 (1 : Int32) (100 : Int32) r2 hc1) rfl rfl hP hD hS ⟨rfl, rfl, Nat.le_of_ble_eq_true rfl, Nat.le_of_ble_eq_true rfl⟩ hl.1 (As := [.int p1, .int (1 : Int32), .int (100 : Int32)]) (rest := []) rfl rfl (Nat.le_of_ble_eq_true rfl) ⟨Nat.zero_le _, Nat.zero_le _⟩ dX3_doze_4 (fun H locs hP hD hS => ?_)
  refine W.eq (g2 := F0 m 7 ls [.int (bI r2)]) rfl ?_
  refine lv_if_ne (tgt := 17) hx hb dX3_doze_7 (by decide) (fun c3 => ?_) (fun c3 => ?_)
  · have hf := im c3 hf
    refine lv_ldc (v := (79993 : Int32)) hx hb hown (hE.w tw_354) dX3_doze_17 ?_
    refine lv_istore_n (lv' := [(2, .int (79993 : Int32)), (0, .ref ((a 8) 0)), (1, .int p1)]) hx hb dX3_doze_19 rfl hl (by decide) rfl (fun ls hl => ?_)
    refine lv_iconst (v := (-1 : Int32)) hx hb dX3_doze_20 (by decide) ?_
    refine lv_istore_n (lv' := [(3, .int (-1 : Int32)), (2, .int (79993 : Int32)), (0, .ref ((a 8) 0)), (1, .int p1)]) hx hb dX3_doze_21 rfl hl (by decide) rfl (fun ls hl => ?_)
    refine lv_iconst (v := (0 : Int32)) hx hb dX3_doze_22 (by decide) ?_
    refine lv_istore (lv' := [(4, .int (0 : Int32)), (3, .int (-1 : Int32)), (2, .int (79993 : Int32)), (0, .ref ((a 8) 0)), (1, .int p1)]) hx hb dX3_doze_23 hl (by decide) rfl (fun ls hl => ?_)
    have L_4 : ∀ (k_4 : Nat) (v4_4 : Int32) (v3_4 : Int32) (v2_4 : Int32) (n_4 : NS), lp_X3_doze_25 p1 k_4 v4_4 v3_4 v2_4 n_4 = some (r, n') → ∀ (H : Heap) (locs : List Loc) (ls : Array Slot), va_P E.1 vwCl (wX3 E a n_4) H → va_D A (wX3 E a n_4) → va_S A s.heap H locs → lv_has ls 6 [(4, .int v4_4), (3, .int v3_4), (2, .int v2_4), (0, .ref ((a 8) 0)), (1, .int p1)] → W p l e (rmk 6 129) s m [.ref ((a 8) 0), .int p1].toArray below meth c H locs 0 0 (MQ below (Qct E A (wX3 E a n') (some (.int r))) [.ref ((a 8) 0), .int p1].toArray s 0 0 A) (F0 m 25 ls []) := by
      intro k_4
      induction k_4 with
      | zero =>
        intro v4_4 v3_4 v2_4 n_4 hf
        rw [lp_X3_doze_25] at hf
        cases hf
      | succ k_4 ih_4 =>
        intro v4_4 v3_4 v2_4 n_4 hf H locs ls hP hD hS hl
        rw [lp_X3_doze_25] at hf
        refine lv_iload hx hb dX3_doze_25 (lv_at hl 0 rfl) ?_
        refine lv_aload_n hx hb dX3_doze_27 rfl (lv_at hl 3 rfl) ?_
        refine va_get (D := E.1) (ci := 3) (v := .ref ((a 0) 0)) (C := RX3) (T := TX3) (N := 7) hx hb hts inX3 hown hE.2.1 hP 0 rfl rfl 0 (by decide) (hE.w tw_119) (fun _ h9 => h9) rfl dX3_doze_28 ?_
        refine va_getN (D := E.1) (ci := 0) (v := .int (g0_people (g3_house n_4))) (C := RX0) (T := TX0) (N := 10) hx hb hts inX0 hown hE.2.1 hP 9 rfl rfl 2 (by decide) (hE.w tw_31) (fun _ h9 => h9) rfl dX3_doze_31 ?_
        refine lv_icmp_ge (tgt := 80) hx hb dX3_doze_34 (by decide) (fun c5 => ?_) (fun c5 => ?_)
        · have hf := ip c5 hf
          refine lv_iload_n hx hb dX3_doze_80 rfl (lv_at hl 1 rfl) ?_
          refine lv_if_ge (tgt := 93) hx hb dX3_doze_81 (by decide) (fun c6 => ?_) (fun c6 => ?_)
          · have hf := ip c6 hf
            refine lv_iload_n hx hb dX3_doze_93 rfl (lv_at hl 1 rfl) ?_
            obtain ⟨rfl, rfl⟩ := so2 hf
            exact rt_i hx hb hr hlocks hP hD hS dX3_doze_94
          · have hf := im c6 hf
            refine lv_aload_n hx hb dX3_doze_84 rfl (lv_at hl 3 rfl) ?_
            refine lv_ldc (v := (-1000000004 : Int32)) hx hb hown (hE.w tw_328) dX3_doze_85 ?_
            obtain ⟨r8, n9, hc7, hf⟩ := bd2_some hf
            refine cV (X := List.take 0 (wX3 E a n_4)) (Y := List.drop 37 (wX3 E a n_4)) (w := (wX3 E a n_4)) (w' := (wX3 E a n9)) (q0 := 0) lk_X3_49 hx hb hml hown hE hA (c_X3_finding l E a n_4 (-1000000004 : Int32) r8 n9 hc7) rfl rfl hP hD hS rfl rfl ⟨rfl, rfl, Nat.le_of_ble_eq_true rfl, Nat.le_of_ble_eq_true rfl⟩ hl.1 (As := [.int (-1000000004 : Int32)]) (rest := []) rfl rfl (Nat.le_of_ble_eq_true rfl) ⟨Nat.zero_le _, Nat.zero_le _⟩ dX3_doze_87 (fun H locs hP hD hS => ?_)
            refine W.eq (g2 := F0 m 90 ls [.int r8]) rfl ?_
            refine lv_goto (tgt := 94) hx hb dX3_doze_90 (by decide) ?_
            obtain ⟨rfl, rfl⟩ := so2 hf
            exact rt_i hx hb hr hlocks hP hD hS dX3_doze_94
        · have hf := im c5 hf
          refine lv_aload_n hx hb dX3_doze_37 rfl (lv_at hl 3 rfl) ?_
          obtain ⟨n11, hc10, hf⟩ := bd1_some hf
          refine cV (X := List.take 0 (wX3 E a n_4)) (Y := List.drop 37 (wX3 E a n_4)) (w := (wX3 E a n_4)) (w' := (wX3 E a n11)) (q0 := 0) lk_X3_124 hx hb hml hown hE hA (c_X3_startTrial l E a n_4 n11 hc10) rfl rfl hP hD hS rfl rfl ⟨rfl, rfl, Nat.le_of_ble_eq_true rfl, Nat.le_of_ble_eq_true rfl⟩ hl.1 (As := []) (rest := []) rfl rfl (Nat.le_of_ble_eq_true rfl) ⟨Nat.zero_le _, Nat.zero_le _⟩ dX3_doze_38 (fun H locs hP hD hS => ?_)
          refine W.eq (g2 := F0 m 41 ls []) rfl ?_
          refine lv_aload_n hx hb dX3_doze_41 rfl (lv_at hl 3 rfl) ?_
          refine va_get (D := E.1) (ci := 3) (v := .ref ((a 1) 0)) (C := RX3) (T := TX3) (N := 7) hx hb hts inX3 hown hE.2.1 hP 0 rfl rfl 1 (by decide) (hE.w tw_120) (fun _ h9 => h9) rfl dX3_doze_42 ?_
          refine va_getN (D := E.1) (ci := 0) (v := .ref ((a 1) 6)) (C := RX0) (T := TX0) (N := 10) hx hb hts inX0 hown hE.2.1 hP 17 rfl rfl 5 (by decide) (hE.w tw_40) (fun _ h9 => h9) rfl dX3_doze_45 ?_
          refine lv_iload hx hb dX3_doze_48 (lv_at hl 0 rfl) ?_
          refine lv_iconst (v := (3 : Int32)) hx hb dX3_doze_50 (by decide) ?_
          obtain ⟨hg12, hf⟩ := gd_some hf
          obtain ⟨n_13, en_13, hf⟩ := jn1_some hf
          refine va_iast hx hb hE.2.1 hP hD hS 20 0 rfl rfl hg12 dX3_doze_51 (fun H locs hP hD hS => ?_)
          have hP : va_P E.1 vwCl (wX3 E a n_13) H := wst (by rw [en_13]; exact rfl) hP
          have hD : va_D A (wX3 E a n_13) := wsd (by rw [en_13]; exact rfl) hD
          refine lv_aload_n hx hb dX3_doze_52 rfl (lv_at hl 3 rfl) ?_
          refine va_get (D := E.1) (ci := 3) (v := .ref ((a 1) 0)) (C := RX3) (T := TX3) (N := 7) hx hb hts inX3 hown hE.2.1 hP 0 rfl rfl 1 (by decide) (hE.w tw_120) (fun _ h9 => h9) rfl dX3_doze_53 ?_
          refine lv_iload_n hx hb dX3_doze_56 rfl (lv_at hl 4 rfl) ?_
          obtain ⟨r15, h16, hc14, hf⟩ := bd2_some hf
          obtain ⟨n_17, en_17, hf⟩ := jn1_some hf
          refine cVN (X := List.take 17 (wX3 E a n_13)) (Y := List.drop 25 (wX3 E a n_13)) (w := (wX3 E a n_13)) (w' := (wX3 E a n_17)) (q0 := 0) lk_X3_127 hx hb hml hown hE hA (c_X0_allNotesOn l E (a 1) (g3_trial n_13) p1 r15 h16 hc14) rfl (by rw [en_17]; rfl) hP hD hS rfl rfl ⟨rfl, rfl, Nat.le_of_ble_eq_true rfl, Nat.le_of_ble_eq_true rfl⟩ hl.1 (As := [.int p1]) (rest := []) rfl rfl (Nat.le_of_ble_eq_true rfl) ⟨Nat.zero_le _, Nat.zero_le _⟩ dX3_doze_57 (fun H locs hP hD hS => ?_)
          refine W.eq (g2 := F0 m 60 ls [.int r15]) rfl ?_
          refine lv_istore (lv' := [(5, .int r15), (4, .int v4_4), (3, .int v3_4), (2, .int v2_4), (0, .ref ((a 8) 0)), (1, .int p1)]) hx hb dX3_doze_60 hl (by decide) rfl (fun ls hl => ?_)
          refine lv_iload hx hb dX3_doze_62 (lv_at hl 0 rfl) ?_
          refine lv_iload_n hx hb dX3_doze_64 rfl (lv_at hl 3 rfl) ?_
          obtain ⟨x19, x20, hq22, hf⟩ := jn2_some hf
          have J21 : ∀ (H : Heap) (locs : List Loc) (ls : Array Slot), va_P E.1 vwCl (wX3 E a n_17) H → va_D A (wX3 E a n_17) → va_S A s.heap H locs → lv_has ls 6 [(5, .int r15), (4, .int v4_4), (3, .int x19), (2, .int x20), (0, .ref ((a 8) 0)), (1, .int p1)] → W p l e (rmk 6 129) s m [.ref ((a 8) 0), .int p1].toArray below meth c H locs 0 0 (MQ below (Qct E A (wX3 E a n') (some (.int r))) [.ref ((a 8) 0), .int p1].toArray s 0 0 A) (F0 m 74 ls []) := by
            intro H locs ls hP hD hS hl
            refine lv_iinc (v := (v4_4 + (1 : Int32))) (lv' := [(4, .int (v4_4 + (1 : Int32))), (5, .int r15), (3, .int x19), (2, .int x20), (0, .ref ((a 8) 0)), (1, .int p1)]) hx hb dX3_doze_74 hl (k := 1) rfl rfl (by decide) rfl (fun ls hl => ?_)
            refine lv_goto (tgt := 25) hx hb dX3_doze_77 (by decide) ?_
            exact ih_4 _ _ _ _ hf _ _ _ hP hD hS (lv_sub hl [0, 2, 3, 4, 5] rfl)
          refine lv_icmp_ge (tgt := 74) hx hb dX3_doze_65 (by decide) (fun c18 => ?_) (fun c18 => ?_)
          · have hq22 := ie c18 hq22
            obtain ⟨rfl, rfl⟩ := pj2 hq22
            exact J21 _ _ _ hP hD hS (lv_sub hl [0, 1, 2, 3, 4, 5] rfl)
          · have hq22 := ien c18 hq22
            refine lv_iload hx hb dX3_doze_68 (lv_at hl 0 rfl) ?_
            refine lv_istore_n (lv' := [(2, .int r15), (5, .int r15), (4, .int v4_4), (3, .int v3_4), (0, .ref ((a 8) 0)), (1, .int p1)]) hx hb dX3_doze_70 rfl hl (by decide) rfl (fun ls hl => ?_)
            refine lv_iload hx hb dX3_doze_71 (lv_at hl 2 rfl) ?_
            refine lv_istore_n (lv' := [(3, .int v4_4), (2, .int r15), (5, .int r15), (4, .int v4_4), (0, .ref ((a 8) 0)), (1, .int p1)]) hx hb dX3_doze_73 rfl hl (by decide) rfl (fun ls hl => ?_)
            obtain ⟨rfl, rfl⟩ := pj2 hq22
            exact J21 _ _ _ hP hD hS (lv_sub hl [2, 3, 0, 1, 4, 5] rfl)
    exact L_4 _ _ _ _ _ hf _ _ _ hP hD hS (lv_sub hl [0, 1, 2, 3, 4] rfl)
  · have hf := ip c3 hf
    refine lv_aload_n hx hb dX3_doze_10 rfl (lv_at hl 0 rfl) ?_
    refine lv_ldc (v := (-1000000001 : Int32)) hx hb hown (hE.w tw_148) dX3_doze_11 ?_
    obtain ⟨r24, n25, hc23, hf⟩ := bd2_some hf
    refine cV (X := List.take 0 (wX3 E a n)) (Y := List.drop 37 (wX3 E a n)) (w := (wX3 E a n)) (w' := (wX3 E a n25)) (q0 := 0) lk_X3_49 hx hb hml hown hE hA (c_X3_finding l E a n (-1000000001 : Int32) r24 n25 hc23) rfl rfl hP hD hS rfl rfl ⟨rfl, rfl, Nat.le_of_ble_eq_true rfl, Nat.le_of_ble_eq_true rfl⟩ hl.1 (As := [.int (-1000000001 : Int32)]) (rest := []) rfl rfl (Nat.le_of_ble_eq_true rfl) ⟨Nat.zero_le _, Nat.zero_le _⟩ dX3_doze_13 (fun H locs hP hD hS => ?_)
    refine W.eq (g2 := F0 m 16 ls [.int r24]) rfl ?_
    obtain ⟨rfl, rfl⟩ := so2 hf
    exact rt_i hx hb hr hlocks hP hD hS dX3_doze_16
def lp_X3_tense_33 (p1 : Int32) (p2 : Int32) : Nat → (Int32) → (NS) → Option (Int32 × NS)
  | 0, _, _ => none
  | k_10 + 1, v3_10, n_10 => if v3_10 < 0 then bd2 (f_X3_finding n_10 (-1000000004 : Int32)) (fun r13 n14 => some (r13, n14)) else bd1 (f_X3_startTrial n_10) (fun n16 => bd1 (f_X0_tenseAll (g3_trial n16) v3_10) (fun h18 => jn1 (s3_trial n16 h18) (fun n_19 => bd2 (f_X0_allNotesOn (g3_trial n_19) p1) (fun r21 h22 => jn1 (s3_trial n_19 h22) (fun n_23 => if r21 < p2 then lp_X3_tense_33 p1 p2 k_10 (v3_10 + (-1 : Int32)) n_23 else some (v3_10, n_23))))))
def f_X3_tense (n : NS) (p1 : Int32) (p2 : Int32) : Option (Int32 × NS) := bd1 (f_X3_isIn p1 (1 : Int32) (100 : Int32)) (fun r2 => if (bI r2) = 0 then bd2 (f_X3_finding n (-1000000001 : Int32)) (fun r5 n6 => some (r5, n6)) else bd1 (f_X3_isIn p2 (-9999 : Int32) (9999 : Int32)) (fun r8 => if (bI r8) = 0 then bd2 (f_X3_finding n (-1000000001 : Int32)) (fun r26 n27 => some (r26, n27)) else lp_X3_tense_33 p1 p2 FU (20 : Int32) n))
set_option maxHeartbeats 4000000 in
set_option maxRecDepth 100000 in
theorem c_X3_tense (l : Launch) (E : EV) (a : Nat → Nat → Nat) (n : NS) (p1 : Int32) (p2 : Int32)  (r : Int32) (n' : NS) (hf : f_X3_tense n p1 p2 = some (r, n')) : Ct l E yX3_tense cX3_tense 4 ((Option.some FieldType.int)) (rmk 6 129) [.ref ((a 8) 0), .int p1, .int p2] (wX3 E a n) (wX3 E a n') (some (.int r)) := by
  refine Ct.of (by decide) (Nat.le_of_ble_eq_true rfl) ?_
  intro p e s m below meth c A ls hC hP hD hl
  obtain ⟨hx, hb, hr, hml, hown, hlocks, hE, hA⟩ := hC
  have hts : ∀ w ∈ tbl, w.before [.ref ((a 8) 0), .int p1, .int p2].toArray s = true := fun w hw => hE.w hw
  have hS : va_S A s.heap s.heap [] := va_S.rf
  have hl : lv_has ls 4 [(0, .ref ((a 8) 0)), (1, .int p1), (2, .int p2)] := hl
  unfold f_X3_tense at hf
  refine lv_iload_n hx hb dX3_tense_0 rfl (lv_at hl 1 rfl) ?_
  refine lv_iconst (v := (1 : Int32)) hx hb dX3_tense_1 (by decide) ?_
  refine lv_bipush (v := (100 : Int32)) hx hb dX3_tense_2 (by decide) ?_
  obtain ⟨r2, hc1, hf⟩ := bd1_some hf
  refine cS (X := List.take 0 (wX3 E a n)) (Y := List.drop 0 (wX3 E a n)) (w := (wX3 E a n)) (w' := (wX3 E a n)) lk_X3_44 hx hb hml hown hE hA (c_X3_isIn l E p1 (1 : Int32) (100 : Int32) r2 hc1) rfl rfl hP hD hS ⟨rfl, rfl, Nat.le_of_ble_eq_true rfl, Nat.le_of_ble_eq_true rfl⟩ hl.1 (As := [.int p1, .int (1 : Int32), .int (100 : Int32)]) (rest := []) rfl rfl (Nat.le_of_ble_eq_true rfl) ⟨Nat.zero_le _, Nat.zero_le _⟩ dX3_tense_4 (fun H locs hP hD hS => ?_)
  refine W.eq (g2 := F0 m 7 ls [.int (bI r2)]) rfl ?_
  refine lv_if_eq (tgt := 23) hx hb dX3_tense_7 (by decide) (fun c3 => ?_) (fun c3 => ?_)
  · have hf := ip c3 hf
    refine lv_aload_n hx hb dX3_tense_23 rfl (lv_at hl 0 rfl) ?_
    refine lv_ldc (v := (-1000000001 : Int32)) hx hb hown (hE.w tw_148) dX3_tense_24 ?_
    obtain ⟨r5, n6, hc4, hf⟩ := bd2_some hf
    refine cV (X := List.take 0 (wX3 E a n)) (Y := List.drop 37 (wX3 E a n)) (w := (wX3 E a n)) (w' := (wX3 E a n6)) (q0 := 0) lk_X3_49 hx hb hml hown hE hA (c_X3_finding l E a n (-1000000001 : Int32) r5 n6 hc4) rfl rfl hP hD hS rfl rfl ⟨rfl, rfl, Nat.le_of_ble_eq_true rfl, Nat.le_of_ble_eq_true rfl⟩ hl.1 (As := [.int (-1000000001 : Int32)]) (rest := []) rfl rfl (Nat.le_of_ble_eq_true rfl) ⟨Nat.zero_le _, Nat.zero_le _⟩ dX3_tense_26 (fun H locs hP hD hS => ?_)
    refine W.eq (g2 := F0 m 29 ls [.int r5]) rfl ?_
    obtain ⟨rfl, rfl⟩ := so2 hf
    exact rt_i hx hb hr hlocks hP hD hS dX3_tense_29
  · have hf := im c3 hf
    refine lv_iload_n hx hb dX3_tense_10 rfl (lv_at hl 2 rfl) ?_
    refine lv_sipush (v := (-9999 : Int32)) hx hb dX3_tense_11 (by decide) ?_
    refine lv_sipush (v := (9999 : Int32)) hx hb dX3_tense_14 (by decide) ?_
    obtain ⟨r8, hc7, hf⟩ := bd1_some hf
    refine cS (X := List.take 0 (wX3 E a n)) (Y := List.drop 0 (wX3 E a n)) (w := (wX3 E a n)) (w' := (wX3 E a n)) lk_X3_44 hx hb hml hown hE hA (c_X3_isIn l E p2 (-9999 : Int32) (9999 : Int32) r8 hc7) rfl rfl hP hD hS ⟨rfl, rfl, Nat.le_of_ble_eq_true rfl, Nat.le_of_ble_eq_true rfl⟩ hl.1 (As := [.int p2, .int (-9999 : Int32), .int (9999 : Int32)]) (rest := []) rfl rfl (Nat.le_of_ble_eq_true rfl) ⟨Nat.zero_le _, Nat.zero_le _⟩ dX3_tense_17 (fun H locs hP hD hS => ?_)
    refine W.eq (g2 := F0 m 20 ls [.int (bI r8)]) rfl ?_
    refine lv_if_ne (tgt := 30) hx hb dX3_tense_20 (by decide) (fun c9 => ?_) (fun c9 => ?_)
    · have hf := im c9 hf
      refine lv_bipush (v := (20 : Int32)) hx hb dX3_tense_30 (by decide) ?_
      refine lv_istore_n (lv' := [(3, .int (20 : Int32)), (0, .ref ((a 8) 0)), (1, .int p1), (2, .int p2)]) hx hb dX3_tense_32 rfl hl (by decide) rfl (fun ls hl => ?_)
      have L_10 : ∀ (k_10 : Nat) (v3_10 : Int32) (n_10 : NS), lp_X3_tense_33 p1 p2 k_10 v3_10 n_10 = some (r, n') → ∀ (H : Heap) (locs : List Loc) (ls : Array Slot), va_P E.1 vwCl (wX3 E a n_10) H → va_D A (wX3 E a n_10) → va_S A s.heap H locs → lv_has ls 4 [(3, .int v3_10), (0, .ref ((a 8) 0)), (1, .int p1), (2, .int p2)] → W p l e (rmk 6 129) s m [.ref ((a 8) 0), .int p1, .int p2].toArray below meth c H locs 0 0 (MQ below (Qct E A (wX3 E a n') (some (.int r))) [.ref ((a 8) 0), .int p1, .int p2].toArray s 0 0 A) (F0 m 33 ls []) := by
        intro k_10
        induction k_10 with
        | zero =>
          intro v3_10 n_10 hf
          rw [lp_X3_tense_33] at hf
          cases hf
        | succ k_10 ih_10 =>
          intro v3_10 n_10 hf H locs ls hP hD hS hl
          rw [lp_X3_tense_33] at hf
          refine lv_iload_n hx hb dX3_tense_33 rfl (lv_at hl 0 rfl) ?_
          refine lv_if_lt (tgt := 69) hx hb dX3_tense_34 (by decide) (fun c11 => ?_) (fun c11 => ?_)
          · have hf := ip c11 hf
            refine lv_aload_n hx hb dX3_tense_69 rfl (lv_at hl 1 rfl) ?_
            refine lv_ldc (v := (-1000000004 : Int32)) hx hb hown (hE.w tw_328) dX3_tense_70 ?_
            obtain ⟨r13, n14, hc12, hf⟩ := bd2_some hf
            refine cV (X := List.take 0 (wX3 E a n_10)) (Y := List.drop 37 (wX3 E a n_10)) (w := (wX3 E a n_10)) (w' := (wX3 E a n14)) (q0 := 0) lk_X3_49 hx hb hml hown hE hA (c_X3_finding l E a n_10 (-1000000004 : Int32) r13 n14 hc12) rfl rfl hP hD hS rfl rfl ⟨rfl, rfl, Nat.le_of_ble_eq_true rfl, Nat.le_of_ble_eq_true rfl⟩ hl.1 (As := [.int (-1000000004 : Int32)]) (rest := []) rfl rfl (Nat.le_of_ble_eq_true rfl) ⟨Nat.zero_le _, Nat.zero_le _⟩ dX3_tense_72 (fun H locs hP hD hS => ?_)
            refine W.eq (g2 := F0 m 75 ls [.int r13]) rfl ?_
            obtain ⟨rfl, rfl⟩ := so2 hf
            exact rt_i hx hb hr hlocks hP hD hS dX3_tense_75
          · have hf := im c11 hf
            refine lv_aload_n hx hb dX3_tense_37 rfl (lv_at hl 1 rfl) ?_
            obtain ⟨n16, hc15, hf⟩ := bd1_some hf
            refine cV (X := List.take 0 (wX3 E a n_10)) (Y := List.drop 37 (wX3 E a n_10)) (w := (wX3 E a n_10)) (w' := (wX3 E a n16)) (q0 := 0) lk_X3_124 hx hb hml hown hE hA (c_X3_startTrial l E a n_10 n16 hc15) rfl rfl hP hD hS rfl rfl ⟨rfl, rfl, Nat.le_of_ble_eq_true rfl, Nat.le_of_ble_eq_true rfl⟩ hl.1 (As := []) (rest := []) rfl rfl (Nat.le_of_ble_eq_true rfl) ⟨Nat.zero_le _, Nat.zero_le _⟩ dX3_tense_38 (fun H locs hP hD hS => ?_)
            refine W.eq (g2 := F0 m 41 ls []) rfl ?_
            refine lv_aload_n hx hb dX3_tense_41 rfl (lv_at hl 1 rfl) ?_
            refine va_get (D := E.1) (ci := 3) (v := .ref ((a 1) 0)) (C := RX3) (T := TX3) (N := 7) hx hb hts inX3 hown hE.2.1 hP 0 rfl rfl 1 (by decide) (hE.w tw_120) (fun _ h9 => h9) rfl dX3_tense_42 ?_
            refine lv_iload_n hx hb dX3_tense_45 rfl (lv_at hl 0 rfl) ?_
            obtain ⟨h18, hc17, hf⟩ := bd1_some hf
            obtain ⟨n_19, en_19, hf⟩ := jn1_some hf
            refine cVN (X := List.take 17 (wX3 E a n16)) (Y := List.drop 25 (wX3 E a n16)) (w := (wX3 E a n16)) (w' := (wX3 E a n_19)) (q0 := 0) lk_X3_139 hx hb hml hown hE hA (c_X0_tenseAll l E (a 1) (g3_trial n16) v3_10 h18 hc17) rfl (by rw [en_19]; rfl) hP hD hS rfl rfl ⟨rfl, rfl, Nat.le_of_ble_eq_true rfl, Nat.le_of_ble_eq_true rfl⟩ hl.1 (As := [.int v3_10]) (rest := []) rfl rfl (Nat.le_of_ble_eq_true rfl) ⟨Nat.zero_le _, Nat.zero_le _⟩ dX3_tense_46 (fun H locs hP hD hS => ?_)
            refine W.eq (g2 := F0 m 49 ls []) rfl ?_
            refine lv_aload_n hx hb dX3_tense_49 rfl (lv_at hl 1 rfl) ?_
            refine va_get (D := E.1) (ci := 3) (v := .ref ((a 1) 0)) (C := RX3) (T := TX3) (N := 7) hx hb hts inX3 hown hE.2.1 hP 0 rfl rfl 1 (by decide) (hE.w tw_120) (fun _ h9 => h9) rfl dX3_tense_50 ?_
            refine lv_iload_n hx hb dX3_tense_53 rfl (lv_at hl 2 rfl) ?_
            obtain ⟨r21, h22, hc20, hf⟩ := bd2_some hf
            obtain ⟨n_23, en_23, hf⟩ := jn1_some hf
            refine cVN (X := List.take 17 (wX3 E a n_19)) (Y := List.drop 25 (wX3 E a n_19)) (w := (wX3 E a n_19)) (w' := (wX3 E a n_23)) (q0 := 0) lk_X3_127 hx hb hml hown hE hA (c_X0_allNotesOn l E (a 1) (g3_trial n_19) p1 r21 h22 hc20) rfl (by rw [en_23]; rfl) hP hD hS rfl rfl ⟨rfl, rfl, Nat.le_of_ble_eq_true rfl, Nat.le_of_ble_eq_true rfl⟩ hl.1 (As := [.int p1]) (rest := []) rfl rfl (Nat.le_of_ble_eq_true rfl) ⟨Nat.zero_le _, Nat.zero_le _⟩ dX3_tense_54 (fun H locs hP hD hS => ?_)
            refine W.eq (g2 := F0 m 57 ls [.int r21]) rfl ?_
            refine lv_iload_n hx hb dX3_tense_57 rfl (lv_at hl 3 rfl) ?_
            refine lv_icmp_lt (tgt := 63) hx hb dX3_tense_58 (by decide) (fun c24 => ?_) (fun c24 => ?_)
            · have hf := ip c24 hf
              refine lv_iinc (v := (v3_10 + (-1 : Int32))) (lv' := [(3, .int (v3_10 + (-1 : Int32))), (0, .ref ((a 8) 0)), (1, .int p1), (2, .int p2)]) hx hb dX3_tense_63 hl (k := 0) rfl rfl (by decide) rfl (fun ls hl => ?_)
              refine lv_goto (tgt := 33) hx hb dX3_tense_66 (by decide) ?_
              exact ih_10 _ _ hf _ _ _ hP hD hS (lv_sub hl [0, 1, 2, 3] rfl)
            · have hf := im c24 hf
              refine lv_iload_n hx hb dX3_tense_61 rfl (lv_at hl 0 rfl) ?_
              obtain ⟨rfl, rfl⟩ := so2 hf
              exact rt_i hx hb hr hlocks hP hD hS dX3_tense_62
      exact L_10 _ _ _ hf _ _ _ hP hD hS (lv_sub hl [0, 1, 2, 3] rfl)
    · have hf := ip c9 hf
      refine lv_aload_n hx hb dX3_tense_23 rfl (lv_at hl 0 rfl) ?_
      refine lv_ldc (v := (-1000000001 : Int32)) hx hb hown (hE.w tw_148) dX3_tense_24 ?_
      obtain ⟨r26, n27, hc25, hf⟩ := bd2_some hf
      refine cV (X := List.take 0 (wX3 E a n)) (Y := List.drop 37 (wX3 E a n)) (w := (wX3 E a n)) (w' := (wX3 E a n27)) (q0 := 0) lk_X3_49 hx hb hml hown hE hA (c_X3_finding l E a n (-1000000001 : Int32) r26 n27 hc25) rfl rfl hP hD hS rfl rfl ⟨rfl, rfl, Nat.le_of_ble_eq_true rfl, Nat.le_of_ble_eq_true rfl⟩ hl.1 (As := [.int (-1000000001 : Int32)]) (rest := []) rfl rfl (Nat.le_of_ble_eq_true rfl) ⟨Nat.zero_le _, Nat.zero_le _⟩ dX3_tense_26 (fun H locs hP hD hS => ?_)
      refine W.eq (g2 := F0 m 29 ls [.int r26]) rfl ?_
      obtain ⟨rfl, rfl⟩ := so2 hf
      exact rt_i hx hb hr hlocks hP hD hS dX3_tense_29
def lp_X3_best_39 (n_8 : NS) : Nat → (Int32) → (Int32) → (Int32) → Option (Int32 × NS)
  | 0, _, _, _ => none
  | k_9 + 1, v4_9, v3_9, v2_9 => if (g0_people (g3_trial n_8)) ≤ v4_9 then if 0 ≤ v3_9 then some (v3_9, n_8) else bd2 (f_X3_finding n_8 (-1000000004 : Int32)) (fun r13 n14 => some (r13, n14)) else gd v4_9 8 (bd2 (if ((g0_notes (g3_trial n_8)) v4_9.toNatClampNeg) ≤ v2_9 then some (v3_9, v2_9) else gd v4_9 8 (some (v4_9, ((g0_notes (g3_trial n_8)) v4_9.toNatClampNeg)))) (fun x17 x18 => lp_X3_best_39 n_8 k_9 (v4_9 + (1 : Int32)) x17 x18))
def f_X3_best (n : NS) (p1 : Int32) : Option (Int32 × NS) := bd1 (f_X3_isIn p1 (0 : Int32) (400 : Int32)) (fun r2 => if (bI r2) = 0 then bd2 (f_X3_finding n (-1000000001 : Int32)) (fun r23 n24 => some (r23, n24)) else bd1 (f_X3_startTrial n) (fun n5 => bd1 (f_X0_goOn (g3_trial n5) p1) (fun h7 => jn1 (s3_trial n5 h7) (fun n_8 => lp_X3_best_39 n_8 FU (0 : Int32) (-1 : Int32) (-10000 : Int32)))))
set_option maxHeartbeats 4000000 in
set_option maxRecDepth 100000 in
theorem c_X3_best (l : Launch) (E : EV) (a : Nat → Nat → Nat) (n : NS) (p1 : Int32)  (r : Int32) (n' : NS) (hf : f_X3_best n p1 = some (r, n')) : Ct l E yX3_best cX3_best 5 ((Option.some FieldType.int)) (rmk 5 108) [.ref ((a 8) 0), .int p1] (wX3 E a n) (wX3 E a n') (some (.int r)) := by
  refine Ct.of (by decide) (Nat.le_of_ble_eq_true rfl) ?_
  intro p e s m below meth c A ls hC hP hD hl
  obtain ⟨hx, hb, hr, hml, hown, hlocks, hE, hA⟩ := hC
  have hts : ∀ w ∈ tbl, w.before [.ref ((a 8) 0), .int p1].toArray s = true := fun w hw => hE.w hw
  have hS : va_S A s.heap s.heap [] := va_S.rf
  have hl : lv_has ls 5 [(0, .ref ((a 8) 0)), (1, .int p1)] := hl
  unfold f_X3_best at hf
  refine lv_iload_n hx hb dX3_best_0 rfl (lv_at hl 1 rfl) ?_
  refine lv_iconst (v := (0 : Int32)) hx hb dX3_best_1 (by decide) ?_
  refine lv_sipush (v := (400 : Int32)) hx hb dX3_best_2 (by decide) ?_
  obtain ⟨r2, hc1, hf⟩ := bd1_some hf
  refine cS (X := List.take 0 (wX3 E a n)) (Y := List.drop 0 (wX3 E a n)) (w := (wX3 E a n)) (w' := (wX3 E a n)) lk_X3_44 hx hb hml hown hE hA (c_X3_isIn l E p1 (0 : Int32) (400 : Int32) r2 hc1) rfl rfl hP hD hS ⟨rfl, rfl, Nat.le_of_ble_eq_true rfl, Nat.le_of_ble_eq_true rfl⟩ hl.1 (As := [.int p1, .int (0 : Int32), .int (400 : Int32)]) (rest := []) rfl rfl (Nat.le_of_ble_eq_true rfl) ⟨Nat.zero_le _, Nat.zero_le _⟩ dX3_best_5 (fun H locs hP hD hS => ?_)
  refine W.eq (g2 := F0 m 8 ls [.int (bI r2)]) rfl ?_
  refine lv_if_ne (tgt := 18) hx hb dX3_best_8 (by decide) (fun c3 => ?_) (fun c3 => ?_)
  · have hf := im c3 hf
    refine lv_aload_n hx hb dX3_best_18 rfl (lv_at hl 0 rfl) ?_
    obtain ⟨n5, hc4, hf⟩ := bd1_some hf
    refine cV (X := List.take 0 (wX3 E a n)) (Y := List.drop 37 (wX3 E a n)) (w := (wX3 E a n)) (w' := (wX3 E a n5)) (q0 := 0) lk_X3_124 hx hb hml hown hE hA (c_X3_startTrial l E a n n5 hc4) rfl rfl hP hD hS rfl rfl ⟨rfl, rfl, Nat.le_of_ble_eq_true rfl, Nat.le_of_ble_eq_true rfl⟩ hl.1 (As := []) (rest := []) rfl rfl (Nat.le_of_ble_eq_true rfl) ⟨Nat.zero_le _, Nat.zero_le _⟩ dX3_best_19 (fun H locs hP hD hS => ?_)
    refine W.eq (g2 := F0 m 22 ls []) rfl ?_
    refine lv_aload_n hx hb dX3_best_22 rfl (lv_at hl 0 rfl) ?_
    refine va_get (D := E.1) (ci := 3) (v := .ref ((a 1) 0)) (C := RX3) (T := TX3) (N := 7) hx hb hts inX3 hown hE.2.1 hP 0 rfl rfl 1 (by decide) (hE.w tw_120) (fun _ h9 => h9) rfl dX3_best_23 ?_
    refine lv_iload_n hx hb dX3_best_26 rfl (lv_at hl 1 rfl) ?_
    obtain ⟨h7, hc6, hf⟩ := bd1_some hf
    obtain ⟨n_8, en_8, hf⟩ := jn1_some hf
    refine cVN (X := List.take 17 (wX3 E a n5)) (Y := List.drop 25 (wX3 E a n5)) (w := (wX3 E a n5)) (w' := (wX3 E a n_8)) (q0 := 0) lk_X3_120 hx hb hml hown hE hA (c_X0_goOn l E (a 1) (g3_trial n5) p1 h7 hc6) rfl (by rw [en_8]; rfl) hP hD hS rfl rfl ⟨rfl, rfl, Nat.le_of_ble_eq_true rfl, Nat.le_of_ble_eq_true rfl⟩ hl.1 (As := [.int p1]) (rest := []) rfl rfl (Nat.le_of_ble_eq_true rfl) ⟨Nat.zero_le _, Nat.zero_le _⟩ dX3_best_27 (fun H locs hP hD hS => ?_)
    refine W.eq (g2 := F0 m 30 ls []) rfl ?_
    refine lv_sipush (v := (-10000 : Int32)) hx hb dX3_best_30 (by decide) ?_
    refine lv_istore_n (lv' := [(2, .int (-10000 : Int32)), (0, .ref ((a 8) 0)), (1, .int p1)]) hx hb dX3_best_33 rfl hl (by decide) rfl (fun ls hl => ?_)
    refine lv_iconst (v := (-1 : Int32)) hx hb dX3_best_34 (by decide) ?_
    refine lv_istore_n (lv' := [(3, .int (-1 : Int32)), (2, .int (-10000 : Int32)), (0, .ref ((a 8) 0)), (1, .int p1)]) hx hb dX3_best_35 rfl hl (by decide) rfl (fun ls hl => ?_)
    refine lv_iconst (v := (0 : Int32)) hx hb dX3_best_36 (by decide) ?_
    refine lv_istore (lv' := [(4, .int (0 : Int32)), (3, .int (-1 : Int32)), (2, .int (-10000 : Int32)), (0, .ref ((a 8) 0)), (1, .int p1)]) hx hb dX3_best_37 hl (by decide) rfl (fun ls hl => ?_)
    have L_9 : ∀ (k_9 : Nat) (v4_9 : Int32) (v3_9 : Int32) (v2_9 : Int32), lp_X3_best_39 n_8 k_9 v4_9 v3_9 v2_9 = some (r, n') → ∀ (H : Heap) (locs : List Loc) (ls : Array Slot), va_P E.1 vwCl (wX3 E a n_8) H → va_D A (wX3 E a n_8) → va_S A s.heap H locs → lv_has ls 5 [(4, .int v4_9), (3, .int v3_9), (2, .int v2_9), (0, .ref ((a 8) 0)), (1, .int p1)] → W p l e (rmk 5 108) s m [.ref ((a 8) 0), .int p1].toArray below meth c H locs 0 0 (MQ below (Qct E A (wX3 E a n') (some (.int r))) [.ref ((a 8) 0), .int p1].toArray s 0 0 A) (F0 m 39 ls []) := by
      intro k_9
      induction k_9 with
      | zero =>
        intro v4_9 v3_9 v2_9 hf
        rw [lp_X3_best_39] at hf
        cases hf
      | succ k_9 ih_9 =>
        intro v4_9 v3_9 v2_9 hf H locs ls hP hD hS hl
        rw [lp_X3_best_39] at hf
        refine lv_iload hx hb dX3_best_39 (lv_at hl 0 rfl) ?_
        refine lv_aload_n hx hb dX3_best_41 rfl (lv_at hl 3 rfl) ?_
        refine va_get (D := E.1) (ci := 3) (v := .ref ((a 1) 0)) (C := RX3) (T := TX3) (N := 7) hx hb hts inX3 hown hE.2.1 hP 0 rfl rfl 1 (by decide) (hE.w tw_120) (fun _ h9 => h9) rfl dX3_best_42 ?_
        refine va_getN (D := E.1) (ci := 0) (v := .int (g0_people (g3_trial n_8))) (C := RX0) (T := TX0) (N := 10) hx hb hts inX0 hown hE.2.1 hP 17 rfl rfl 2 (by decide) (hE.w tw_31) (fun _ h9 => h9) rfl dX3_best_45 ?_
        refine lv_icmp_ge (tgt := 85) hx hb dX3_best_48 (by decide) (fun c10 => ?_) (fun c10 => ?_)
        · have hf := ip c10 hf
          refine lv_iload_n hx hb dX3_best_85 rfl (lv_at hl 1 rfl) ?_
          refine lv_if_ge (tgt := 98) hx hb dX3_best_86 (by decide) (fun c11 => ?_) (fun c11 => ?_)
          · have hf := ip c11 hf
            refine lv_iload_n hx hb dX3_best_98 rfl (lv_at hl 1 rfl) ?_
            obtain ⟨rfl, rfl⟩ := so2 hf
            exact rt_i hx hb hr hlocks hP hD hS dX3_best_99
          · have hf := im c11 hf
            refine lv_aload_n hx hb dX3_best_89 rfl (lv_at hl 3 rfl) ?_
            refine lv_ldc (v := (-1000000004 : Int32)) hx hb hown (hE.w tw_328) dX3_best_90 ?_
            obtain ⟨r13, n14, hc12, hf⟩ := bd2_some hf
            refine cV (X := List.take 0 (wX3 E a n_8)) (Y := List.drop 37 (wX3 E a n_8)) (w := (wX3 E a n_8)) (w' := (wX3 E a n14)) (q0 := 0) lk_X3_49 hx hb hml hown hE hA (c_X3_finding l E a n_8 (-1000000004 : Int32) r13 n14 hc12) rfl rfl hP hD hS rfl rfl ⟨rfl, rfl, Nat.le_of_ble_eq_true rfl, Nat.le_of_ble_eq_true rfl⟩ hl.1 (As := [.int (-1000000004 : Int32)]) (rest := []) rfl rfl (Nat.le_of_ble_eq_true rfl) ⟨Nat.zero_le _, Nat.zero_le _⟩ dX3_best_92 (fun H locs hP hD hS => ?_)
            refine W.eq (g2 := F0 m 95 ls [.int r13]) rfl ?_
            refine lv_goto (tgt := 99) hx hb dX3_best_95 (by decide) ?_
            obtain ⟨rfl, rfl⟩ := so2 hf
            exact rt_i hx hb hr hlocks hP hD hS dX3_best_99
        · have hf := im c10 hf
          refine lv_aload_n hx hb dX3_best_51 rfl (lv_at hl 3 rfl) ?_
          refine va_get (D := E.1) (ci := 3) (v := .ref ((a 1) 0)) (C := RX3) (T := TX3) (N := 7) hx hb hts inX3 hown hE.2.1 hP 0 rfl rfl 1 (by decide) (hE.w tw_120) (fun _ h9 => h9) rfl dX3_best_52 ?_
          refine va_getN (D := E.1) (ci := 0) (v := .ref ((a 1) 8)) (C := RX0) (T := TX0) (N := 10) hx hb hts inX0 hown hE.2.1 hP 17 rfl rfl 7 (by decide) (hE.w tw_45) (fun _ h9 => h9) rfl dX3_best_55 ?_
          refine lv_iload hx hb dX3_best_58 (lv_at hl 0 rfl) ?_
          obtain ⟨hg15, hf⟩ := gd_some hf
          refine va_iald hx hb hE.2.1 hP 22 0 rfl rfl hg15 dX3_best_60 ?_
          refine lv_iload_n hx hb dX3_best_61 rfl (lv_at hl 2 rfl) ?_
          obtain ⟨x17, x18, hq20, hf⟩ := bd2_some hf
          have J19 : ∀ (H : Heap) (locs : List Loc) (ls : Array Slot), va_P E.1 vwCl (wX3 E a n_8) H → va_D A (wX3 E a n_8) → va_S A s.heap H locs → lv_has ls 5 [(4, .int v4_9), (3, .int x17), (2, .int x18), (0, .ref ((a 8) 0)), (1, .int p1)] → W p l e (rmk 5 108) s m [.ref ((a 8) 0), .int p1].toArray below meth c H locs 0 0 (MQ below (Qct E A (wX3 E a n') (some (.int r))) [.ref ((a 8) 0), .int p1].toArray s 0 0 A) (F0 m 79 ls []) := by
            intro H locs ls hP hD hS hl
            refine lv_iinc (v := (v4_9 + (1 : Int32))) (lv' := [(4, .int (v4_9 + (1 : Int32))), (3, .int x17), (2, .int x18), (0, .ref ((a 8) 0)), (1, .int p1)]) hx hb dX3_best_79 hl (k := 0) rfl rfl (by decide) rfl (fun ls hl => ?_)
            refine lv_goto (tgt := 39) hx hb dX3_best_82 (by decide) ?_
            exact ih_9 _ _ _ hf _ _ _ hP hD hS (lv_sub hl [0, 1, 2, 3, 4] rfl)
          refine lv_icmp_le (tgt := 79) hx hb dX3_best_62 (by decide) (fun c16 => ?_) (fun c16 => ?_)
          · have hq20 := ip c16 hq20
            obtain ⟨rfl, rfl⟩ := so2 hq20
            exact J19 _ _ _ hP hD hS (lv_sub hl [0, 1, 2, 3, 4] rfl)
          · have hq20 := im c16 hq20
            refine lv_aload_n hx hb dX3_best_65 rfl (lv_at hl 3 rfl) ?_
            refine va_get (D := E.1) (ci := 3) (v := .ref ((a 1) 0)) (C := RX3) (T := TX3) (N := 7) hx hb hts inX3 hown hE.2.1 hP 0 rfl rfl 1 (by decide) (hE.w tw_120) (fun _ h9 => h9) rfl dX3_best_66 ?_
            refine va_getN (D := E.1) (ci := 0) (v := .ref ((a 1) 8)) (C := RX0) (T := TX0) (N := 10) hx hb hts inX0 hown hE.2.1 hP 17 rfl rfl 7 (by decide) (hE.w tw_45) (fun _ h9 => h9) rfl dX3_best_69 ?_
            refine lv_iload hx hb dX3_best_72 (lv_at hl 0 rfl) ?_
            obtain ⟨hg21, hq20⟩ := gd_some hq20
            refine va_iald hx hb hE.2.1 hP 22 0 rfl rfl hg21 dX3_best_74 ?_
            refine lv_istore_n (lv' := [(2, .int ((g0_notes (g3_trial n_8)) v4_9.toNatClampNeg)), (4, .int v4_9), (3, .int v3_9), (0, .ref ((a 8) 0)), (1, .int p1)]) hx hb dX3_best_75 rfl hl (by decide) rfl (fun ls hl => ?_)
            refine lv_iload hx hb dX3_best_76 (lv_at hl 1 rfl) ?_
            refine lv_istore_n (lv' := [(3, .int v4_9), (2, .int ((g0_notes (g3_trial n_8)) v4_9.toNatClampNeg)), (4, .int v4_9), (0, .ref ((a 8) 0)), (1, .int p1)]) hx hb dX3_best_78 rfl hl (by decide) rfl (fun ls hl => ?_)
            obtain ⟨rfl, rfl⟩ := so2 hq20
            exact J19 _ _ _ hP hD hS (lv_sub hl [2, 0, 1, 3, 4] rfl)
    exact L_9 _ _ _ _ hf _ _ _ hP hD hS (lv_sub hl [0, 1, 2, 3, 4] rfl)
  · have hf := ip c3 hf
    refine lv_aload_n hx hb dX3_best_11 rfl (lv_at hl 0 rfl) ?_
    refine lv_ldc (v := (-1000000001 : Int32)) hx hb hown (hE.w tw_148) dX3_best_12 ?_
    obtain ⟨r23, n24, hc22, hf⟩ := bd2_some hf
    refine cV (X := List.take 0 (wX3 E a n)) (Y := List.drop 37 (wX3 E a n)) (w := (wX3 E a n)) (w' := (wX3 E a n24)) (q0 := 0) lk_X3_49 hx hb hml hown hE hA (c_X3_finding l E a n (-1000000001 : Int32) r23 n24 hc22) rfl rfl hP hD hS rfl rfl ⟨rfl, rfl, Nat.le_of_ble_eq_true rfl, Nat.le_of_ble_eq_true rfl⟩ hl.1 (As := [.int (-1000000001 : Int32)]) (rest := []) rfl rfl (Nat.le_of_ble_eq_true rfl) ⟨Nat.zero_le _, Nat.zero_le _⟩ dX3_best_14 (fun H locs hP hD hS => ?_)
    refine W.eq (g2 := F0 m 17 ls [.int r23]) rfl ?_
    obtain ⟨rfl, rfl⟩ := so2 hf
    exact rt_i hx hb hr hlocks hP hD hS dX3_best_17
def lp_X3_feed_41 (p1 : Int32) : Nat → (Int32) → (NS) → Option (Int32 × NS)
  | 0, _, _ => none
  | k_5 + 1, v3_5, n_5 => if v3_5 < 0 then some ((g2_length (g3_tape n_5)), n_5) else bd1 (f_X2_add (g3_tape n_5) ((p1 >>> (((8 : Int32) * v3_5) &&& 31)).toInt8.toInt32)) (fun t8 => jn1 (s3_tape n_5 t8) (fun n_9 => lp_X3_feed_41 p1 k_5 (v3_5 + (-1 : Int32)) n_9))
def f_X3_feed (n : NS) (p1 : Int32) (p2 : Int32) : Option (Int32 × NS) := bd1 (f_X3_isIn p2 (1 : Int32) (4 : Int32)) (fun r2 => if (bI r2) = 0 then bd2 (f_X3_finding n (-1000000001 : Int32)) (fun r14 n15 => some (r14, n15)) else if ((g2_length (g3_tape n)) + p2) ≤ (120 : Int32) then lp_X3_feed_41 p1 FU (p2 - (1 : Int32)) n else bd2 (f_X3_finding n (-1000000002 : Int32)) (fun r11 n12 => some (r11, n12)))
set_option maxHeartbeats 4000000 in
set_option maxRecDepth 100000 in
theorem c_X3_feed (l : Launch) (E : EV) (a : Nat → Nat → Nat) (n : NS) (p1 : Int32) (p2 : Int32)  (r : Int32) (n' : NS) (hf : f_X3_feed n p1 p2 = some (r, n')) : Ct l E yX3_feed cX3_feed 4 ((Option.some FieldType.int)) (rmk 1 22) [.ref ((a 8) 0), .int p1, .int p2] (wX3 E a n) (wX3 E a n') (some (.int r)) := by
  refine Ct.of (by decide) (Nat.le_of_ble_eq_true rfl) ?_
  intro p e s m below meth c A ls hC hP hD hl
  obtain ⟨hx, hb, hr, hml, hown, hlocks, hE, hA⟩ := hC
  have hts : ∀ w ∈ tbl, w.before [.ref ((a 8) 0), .int p1, .int p2].toArray s = true := fun w hw => hE.w hw
  have hS : va_S A s.heap s.heap [] := va_S.rf
  have hl : lv_has ls 4 [(0, .ref ((a 8) 0)), (1, .int p1), (2, .int p2)] := hl
  unfold f_X3_feed at hf
  refine lv_iload_n hx hb dX3_feed_0 rfl (lv_at hl 2 rfl) ?_
  refine lv_iconst (v := (1 : Int32)) hx hb dX3_feed_1 (by decide) ?_
  refine lv_iconst (v := (4 : Int32)) hx hb dX3_feed_2 (by decide) ?_
  obtain ⟨r2, hc1, hf⟩ := bd1_some hf
  refine cS (X := List.take 0 (wX3 E a n)) (Y := List.drop 0 (wX3 E a n)) (w := (wX3 E a n)) (w' := (wX3 E a n)) lk_X3_44 hx hb hml hown hE hA (c_X3_isIn l E p2 (1 : Int32) (4 : Int32) r2 hc1) rfl rfl hP hD hS ⟨rfl, rfl, Nat.le_of_ble_eq_true rfl, Nat.le_of_ble_eq_true rfl⟩ hl.1 (As := [.int p2, .int (1 : Int32), .int (4 : Int32)]) (rest := []) rfl rfl (Nat.le_of_ble_eq_true rfl) ⟨Nat.zero_le _, Nat.zero_le _⟩ dX3_feed_3 (fun H locs hP hD hS => ?_)
  refine W.eq (g2 := F0 m 6 ls [.int (bI r2)]) rfl ?_
  refine lv_if_ne (tgt := 16) hx hb dX3_feed_6 (by decide) (fun c3 => ?_) (fun c3 => ?_)
  · have hf := im c3 hf
    refine lv_aload_n hx hb dX3_feed_16 rfl (lv_at hl 0 rfl) ?_
    refine va_get (D := E.1) (ci := 3) (v := .ref ((a 3) 0)) (C := RX3) (T := TX3) (N := 7) hx hb hts inX3 hown hE.2.1 hP 0 rfl rfl 4 (by decide) (hE.w tw_123) (fun _ h9 => h9) rfl dX3_feed_17 ?_
    refine va_getN (D := E.1) (ci := 2) (v := .int (g2_length (g3_tape n))) (C := RX2) (T := TX2) (N := 6) hx hb hts inX2 hown hE.2.1 hP 25 rfl rfl 1 (by decide) (hE.w tw_79) (fun _ h9 => h9) rfl dX3_feed_20 ?_
    refine lv_iload_n hx hb dX3_feed_23 rfl (lv_at hl 2 rfl) ?_
    refine lv_iadd hx hb dX3_feed_24 ?_
    refine lv_bipush (v := (120 : Int32)) hx hb dX3_feed_25 (by decide) ?_
    refine lv_icmp_le (tgt := 37) hx hb dX3_feed_27 (by decide) (fun c4 => ?_) (fun c4 => ?_)
    · have hf := ip c4 hf
      refine lv_iload_n hx hb dX3_feed_37 rfl (lv_at hl 2 rfl) ?_
      refine lv_iconst (v := (1 : Int32)) hx hb dX3_feed_38 (by decide) ?_
      refine lv_isub hx hb dX3_feed_39 ?_
      refine lv_istore_n (lv' := [(3, .int (p2 - (1 : Int32))), (0, .ref ((a 8) 0)), (1, .int p1), (2, .int p2)]) hx hb dX3_feed_40 rfl hl (by decide) rfl (fun ls hl => ?_)
      have L_5 : ∀ (k_5 : Nat) (v3_5 : Int32) (n_5 : NS), lp_X3_feed_41 p1 k_5 v3_5 n_5 = some (r, n') → ∀ (H : Heap) (locs : List Loc) (ls : Array Slot), va_P E.1 vwCl (wX3 E a n_5) H → va_D A (wX3 E a n_5) → va_S A s.heap H locs → lv_has ls 4 [(3, .int v3_5), (0, .ref ((a 8) 0)), (1, .int p1), (2, .int p2)] → W p l e (rmk 1 22) s m [.ref ((a 8) 0), .int p1, .int p2].toArray below meth c H locs 0 0 (MQ below (Qct E A (wX3 E a n') (some (.int r))) [.ref ((a 8) 0), .int p1, .int p2].toArray s 0 0 A) (F0 m 41 ls []) := by
        intro k_5
        induction k_5 with
        | zero =>
          intro v3_5 n_5 hf
          rw [lp_X3_feed_41] at hf
          cases hf
        | succ k_5 ih_5 =>
          intro v3_5 n_5 hf H locs ls hP hD hS hl
          rw [lp_X3_feed_41] at hf
          refine lv_iload_n hx hb dX3_feed_41 rfl (lv_at hl 0 rfl) ?_
          refine lv_if_lt (tgt := 65) hx hb dX3_feed_42 (by decide) (fun c6 => ?_) (fun c6 => ?_)
          · have hf := ip c6 hf
            refine lv_aload_n hx hb dX3_feed_65 rfl (lv_at hl 1 rfl) ?_
            refine va_get (D := E.1) (ci := 3) (v := .ref ((a 3) 0)) (C := RX3) (T := TX3) (N := 7) hx hb hts inX3 hown hE.2.1 hP 0 rfl rfl 4 (by decide) (hE.w tw_123) (fun _ h9 => h9) rfl dX3_feed_66 ?_
            refine va_getN (D := E.1) (ci := 2) (v := .int (g2_length (g3_tape n_5))) (C := RX2) (T := TX2) (N := 6) hx hb hts inX2 hown hE.2.1 hP 25 rfl rfl 1 (by decide) (hE.w tw_79) (fun _ h9 => h9) rfl dX3_feed_69 ?_
            obtain ⟨rfl, rfl⟩ := so2 hf
            exact rt_i hx hb hr hlocks hP hD hS dX3_feed_72
          · have hf := im c6 hf
            refine lv_aload_n hx hb dX3_feed_45 rfl (lv_at hl 1 rfl) ?_
            refine va_get (D := E.1) (ci := 3) (v := .ref ((a 3) 0)) (C := RX3) (T := TX3) (N := 7) hx hb hts inX3 hown hE.2.1 hP 0 rfl rfl 4 (by decide) (hE.w tw_123) (fun _ h9 => h9) rfl dX3_feed_46 ?_
            refine lv_iload_n hx hb dX3_feed_49 rfl (lv_at hl 2 rfl) ?_
            refine lv_bipush (v := (8 : Int32)) hx hb dX3_feed_50 (by decide) ?_
            refine lv_iload_n hx hb dX3_feed_52 rfl (lv_at hl 0 rfl) ?_
            refine lv_imul hx hb dX3_feed_53 ?_
            refine lv_ishr hx hb dX3_feed_54 ?_
            refine lv_i2b (v := ((p1 >>> (((8 : Int32) * v3_5) &&& 31)).toInt8.toInt32)) hx hb dX3_feed_55 rfl ?_
            obtain ⟨t8, hc7, hf⟩ := bd1_some hf
            obtain ⟨n_9, en_9, hf⟩ := jn1_some hf
            refine cVN (X := List.take 25 (wX3 E a n_5)) (Y := List.drop 27 (wX3 E a n_5)) (w := (wX3 E a n_5)) (w' := (wX3 E a n_9)) (q0 := 0) lk_X3_145 hx hb hml hown hE hA (c_X2_add l E (a 3) (g3_tape n_5) ((p1 >>> (((8 : Int32) * v3_5) &&& 31)).toInt8.toInt32) t8 hc7) rfl (by rw [en_9]; rfl) hP hD hS rfl rfl ⟨rfl, rfl, Nat.le_of_ble_eq_true rfl, Nat.le_of_ble_eq_true rfl⟩ hl.1 (As := [.int ((p1 >>> (((8 : Int32) * v3_5) &&& 31)).toInt8.toInt32)]) (rest := []) rfl rfl (Nat.le_of_ble_eq_true rfl) ⟨Nat.zero_le _, Nat.zero_le _⟩ dX3_feed_56 (fun H locs hP hD hS => ?_)
            refine W.eq (g2 := F0 m 59 ls []) rfl ?_
            refine lv_iinc (v := (v3_5 + (-1 : Int32))) (lv' := [(3, .int (v3_5 + (-1 : Int32))), (0, .ref ((a 8) 0)), (1, .int p1), (2, .int p2)]) hx hb dX3_feed_59 hl (k := 0) rfl rfl (by decide) rfl (fun ls hl => ?_)
            refine lv_goto (tgt := 41) hx hb dX3_feed_62 (by decide) ?_
            exact ih_5 _ _ hf _ _ _ hP hD hS (lv_sub hl [0, 1, 2, 3] rfl)
      exact L_5 _ _ _ hf _ _ _ hP hD hS (lv_sub hl [0, 1, 2, 3] rfl)
    · have hf := im c4 hf
      refine lv_aload_n hx hb dX3_feed_30 rfl (lv_at hl 0 rfl) ?_
      refine lv_ldc (v := (-1000000002 : Int32)) hx hb hown (hE.w tw_196) dX3_feed_31 ?_
      obtain ⟨r11, n12, hc10, hf⟩ := bd2_some hf
      refine cV (X := List.take 0 (wX3 E a n)) (Y := List.drop 37 (wX3 E a n)) (w := (wX3 E a n)) (w' := (wX3 E a n12)) (q0 := 0) lk_X3_49 hx hb hml hown hE hA (c_X3_finding l E a n (-1000000002 : Int32) r11 n12 hc10) rfl rfl hP hD hS rfl rfl ⟨rfl, rfl, Nat.le_of_ble_eq_true rfl, Nat.le_of_ble_eq_true rfl⟩ hl.1 (As := [.int (-1000000002 : Int32)]) (rest := []) rfl rfl (Nat.le_of_ble_eq_true rfl) ⟨Nat.zero_le _, Nat.zero_le _⟩ dX3_feed_33 (fun H locs hP hD hS => ?_)
      refine W.eq (g2 := F0 m 36 ls [.int r11]) rfl ?_
      obtain ⟨rfl, rfl⟩ := so2 hf
      exact rt_i hx hb hr hlocks hP hD hS dX3_feed_36
  · have hf := ip c3 hf
    refine lv_aload_n hx hb dX3_feed_9 rfl (lv_at hl 0 rfl) ?_
    refine lv_ldc (v := (-1000000001 : Int32)) hx hb hown (hE.w tw_148) dX3_feed_10 ?_
    obtain ⟨r14, n15, hc13, hf⟩ := bd2_some hf
    refine cV (X := List.take 0 (wX3 E a n)) (Y := List.drop 37 (wX3 E a n)) (w := (wX3 E a n)) (w' := (wX3 E a n15)) (q0 := 0) lk_X3_49 hx hb hml hown hE hA (c_X3_finding l E a n (-1000000001 : Int32) r14 n15 hc13) rfl rfl hP hD hS rfl rfl ⟨rfl, rfl, Nat.le_of_ble_eq_true rfl, Nat.le_of_ble_eq_true rfl⟩ hl.1 (As := [.int (-1000000001 : Int32)]) (rest := []) rfl rfl (Nat.le_of_ble_eq_true rfl) ⟨Nat.zero_le _, Nat.zero_le _⟩ dX3_feed_12 (fun H locs hP hD hS => ?_)
    refine W.eq (g2 := F0 m 15 ls [.int r14]) rfl ?_
    obtain ⟨rfl, rfl⟩ := so2 hf
    exact rt_i hx hb hr hlocks hP hD hS dX3_feed_15
def f_X3_wipe (n : NS) : Option (Int32 × NS) := jn1 (s3_tape n (s2_length (g3_tape n) (0 : Int32))) (fun n_1 => some ((g2_length (g3_tape n)), n_1))
set_option maxHeartbeats 4000000 in
set_option maxRecDepth 100000 in
theorem c_X3_wipe (l : Launch) (E : EV) (a : Nat → Nat → Nat) (n : NS)  (r : Int32) (n' : NS) (hf : f_X3_wipe n = some (r, n')) : Ct l E yX3_wipe cX3_wipe 2 ((Option.some FieldType.int)) (rmk 0 0) [.ref ((a 8) 0)] (wX3 E a n) (wX3 E a n') (some (.int r)) := by
  refine Ct.of (by decide) (Nat.le_of_ble_eq_true rfl) ?_
  intro p e s m below meth c A ls hC hP hD hl
  obtain ⟨hx, hb, hr, hml, hown, hlocks, hE, hA⟩ := hC
  have hts : ∀ w ∈ tbl, w.before [.ref ((a 8) 0)].toArray s = true := fun w hw => hE.w hw
  have hS : va_S A s.heap s.heap [] := va_S.rf
  have hl : lv_has ls 2 [(0, .ref ((a 8) 0))] := hl
  unfold f_X3_wipe at hf
  refine lv_aload_n hx hb dX3_wipe_0 rfl (lv_at hl 0 rfl) ?_
  refine va_get (D := E.1) (ci := 3) (v := .ref ((a 3) 0)) (C := RX3) (T := TX3) (N := 7) hx hb hts inX3 hown hE.2.1 hP 0 rfl rfl 4 (by decide) (hE.w tw_123) (fun _ h9 => h9) rfl dX3_wipe_1 ?_
  refine va_getN (D := E.1) (ci := 2) (v := .int (g2_length (g3_tape n))) (C := RX2) (T := TX2) (N := 6) hx hb hts inX2 hown hE.2.1 hP 25 rfl rfl 1 (by decide) (hE.w tw_79) (fun _ h9 => h9) rfl dX3_wipe_4 ?_
  refine lv_istore_n (lv' := [(1, .int (g2_length (g3_tape n))), (0, .ref ((a 8) 0))]) hx hb dX3_wipe_7 rfl hl (by decide) rfl (fun ls hl => ?_)
  refine lv_aload_n hx hb dX3_wipe_8 rfl (lv_at hl 1 rfl) ?_
  refine va_get (D := E.1) (ci := 3) (v := .ref ((a 3) 0)) (C := RX3) (T := TX3) (N := 7) hx hb hts inX3 hown hE.2.1 hP 0 rfl rfl 4 (by decide) (hE.w tw_123) (fun _ h9 => h9) rfl dX3_wipe_9 ?_
  refine lv_iconst (v := (0 : Int32)) hx hb dX3_wipe_12 (by decide) ?_
  obtain ⟨n_1, en_1, hf⟩ := jn1_some hf
  refine va_putN (D := E.1) (ci := 2) (v := .int (0 : Int32)) (ty := .int) (C := RX2) (T := TX2) (N := 6) hx hb hts inX2 tyX2 tyX2_ok nmX2 hown hE.2.1 hP hD hS 25 rfl rfl 1 (by decide) (hE.w tw_79) (fun _ h9 => h9) rfl (by decide +kernel) rfl rfl (Nat.le_of_ble_eq_true rfl) dX3_wipe_13 (fun H locs hP hD hS => ?_)
  have hP : va_P E.1 vwCl (wX3 E a n_1) H := wst (by rw [en_1]; exact rfl) hP
  have hD : va_D A (wX3 E a n_1) := wsd (by rw [en_1]; exact rfl) hD
  refine lv_iload_n hx hb dX3_wipe_16 rfl (lv_at hl 0 rfl) ?_
  obtain ⟨rfl, rfl⟩ := so2 hf
  exact rt_i hx hb hr hlocks hP hD hS dX3_wipe_17
def f_X3_evening (n : NS) : Option (Int32 × NS) := bd1 (f_X3_startTrial n) (fun n2 => bd3 (f_X2_tellTo (g3_trial n2) (g3_tape n2)) (fun r4 h5 t6 => jn1 (s3_tape (s3_trial n2 h5) t6) (fun n_7 => bd1 (if r4 < 0 then some (n_7) else bd1 (f_X0_become_ht (g3_kept n_7) (g3_house n_7) (g3_trial n_7)) (fun h13 => jn1 (s3_house n_7 h13) (fun n_14 => some (n_14)))) (fun n9 => jn1 (s3_tape n9 (s2_length (g3_tape n9) (0 : Int32))) (fun n_15 => some (r4, n_15))))))
set_option maxHeartbeats 4000000 in
set_option maxRecDepth 100000 in
theorem c_X3_evening (l : Launch) (E : EV) (a : Nat → Nat → Nat) (n : NS)  (r : Int32) (n' : NS) (hf : f_X3_evening n = some (r, n')) : Ct l E yX3_evening cX3_evening 2 ((Option.some FieldType.int)) (rmk 9 194) [.ref ((a 8) 0)] (wX3 E a n) (wX3 E a n') (some (.int r)) := by
  refine Ct.of (by decide) (Nat.le_of_ble_eq_true rfl) ?_
  intro p e s m below meth c A ls hC hP hD hl
  obtain ⟨hx, hb, hr, hml, hown, hlocks, hE, hA⟩ := hC
  have hts : ∀ w ∈ tbl, w.before [.ref ((a 8) 0)].toArray s = true := fun w hw => hE.w hw
  have hS : va_S A s.heap s.heap [] := va_S.rf
  have hl : lv_has ls 2 [(0, .ref ((a 8) 0))] := hl
  unfold f_X3_evening at hf
  refine lv_aload_n hx hb dX3_evening_0 rfl (lv_at hl 0 rfl) ?_
  obtain ⟨n2, hc1, hf⟩ := bd1_some hf
  refine cV (X := List.take 0 (wX3 E a n)) (Y := List.drop 37 (wX3 E a n)) (w := (wX3 E a n)) (w' := (wX3 E a n2)) (q0 := 0) lk_X3_124 hx hb hml hown hE hA (c_X3_startTrial l E a n n2 hc1) rfl rfl hP hD hS rfl rfl ⟨rfl, rfl, Nat.le_of_ble_eq_true rfl, Nat.le_of_ble_eq_true rfl⟩ hl.1 (As := []) (rest := []) rfl rfl (Nat.le_of_ble_eq_true rfl) ⟨Nat.zero_le _, Nat.zero_le _⟩ dX3_evening_1 (fun H locs hP hD hS => ?_)
  refine W.eq (g2 := F0 m 4 ls []) rfl ?_
  refine lv_aload_n hx hb dX3_evening_4 rfl (lv_at hl 0 rfl) ?_
  refine va_get (D := E.1) (ci := 3) (v := .ref ((a 3) 0)) (C := RX3) (T := TX3) (N := 7) hx hb hts inX3 hown hE.2.1 hP 0 rfl rfl 4 (by decide) (hE.w tw_123) (fun _ h9 => h9) rfl dX3_evening_5 ?_
  refine lv_aload_n hx hb dX3_evening_8 rfl (lv_at hl 0 rfl) ?_
  refine va_get (D := E.1) (ci := 3) (v := .ref ((a 1) 0)) (C := RX3) (T := TX3) (N := 7) hx hb hts inX3 hown hE.2.1 hP 0 rfl rfl 1 (by decide) (hE.w tw_120) (fun _ h9 => h9) rfl dX3_evening_9 ?_
  obtain ⟨r4, h5, t6, hc3, hf⟩ := bd3_some hf
  obtain ⟨n_7, en_7, hf⟩ := jn1_some hf
  refine cVN (X := List.take 17 (wX3 E a n2)) (Y := List.drop 27 (wX3 E a n2)) (w := (wX3 E a n2)) (w' := (wX3 E a n_7)) (q0 := 8) lk_X3_149 hx hb hml hown hE hA (c_X2_tellTo l E (a 1) (a 3) (g3_trial n2) (g3_tape n2) r4 h5 t6 hc3) rfl (by rw [en_7]; rfl) hP hD hS rfl rfl ⟨rfl, rfl, Nat.le_of_ble_eq_true rfl, Nat.le_of_ble_eq_true rfl⟩ hl.1 (As := [.ref ((a 1) 0)]) (rest := []) rfl rfl (Nat.le_of_ble_eq_true rfl) ⟨Nat.zero_le _, Nat.zero_le _⟩ dX3_evening_12 (fun H locs hP hD hS => ?_)
  refine W.eq (g2 := F0 m 15 ls [.int r4]) rfl ?_
  refine lv_istore_n (lv' := [(1, .int r4), (0, .ref ((a 8) 0))]) hx hb dX3_evening_15 rfl hl (by decide) rfl (fun ls hl => ?_)
  refine lv_iload_n hx hb dX3_evening_16 rfl (lv_at hl 0 rfl) ?_
  obtain ⟨n9, hq11, hf⟩ := bd1_some hf
  have J10 : ∀ (H : Heap) (locs : List Loc) (ls : Array Slot), va_P E.1 vwCl (wX3 E a n9) H → va_D A (wX3 E a n9) → va_S A s.heap H locs → lv_has ls 2 [(1, .int r4), (0, .ref ((a 8) 0))] → W p l e (rmk 9 194) s m [.ref ((a 8) 0)].toArray below meth c H locs 0 0 (MQ below (Qct E A (wX3 E a n') (some (.int r))) [.ref ((a 8) 0)].toArray s 0 0 A) (F0 m 31 ls []) := by
    intro H locs ls hP hD hS hl
    refine lv_aload_n hx hb dX3_evening_31 rfl (lv_at hl 1 rfl) ?_
    refine va_get (D := E.1) (ci := 3) (v := .ref ((a 3) 0)) (C := RX3) (T := TX3) (N := 7) hx hb hts inX3 hown hE.2.1 hP 0 rfl rfl 4 (by decide) (hE.w tw_123) (fun _ h9 => h9) rfl dX3_evening_32 ?_
    refine lv_iconst (v := (0 : Int32)) hx hb dX3_evening_35 (by decide) ?_
    obtain ⟨n_15, en_15, hf⟩ := jn1_some hf
    refine va_putN (D := E.1) (ci := 2) (v := .int (0 : Int32)) (ty := .int) (C := RX2) (T := TX2) (N := 6) hx hb hts inX2 tyX2 tyX2_ok nmX2 hown hE.2.1 hP hD hS 25 rfl rfl 1 (by decide) (hE.w tw_79) (fun _ h9 => h9) rfl (by decide +kernel) rfl rfl (Nat.le_of_ble_eq_true rfl) dX3_evening_36 (fun H locs hP hD hS => ?_)
    have hP : va_P E.1 vwCl (wX3 E a n_15) H := wst (by rw [en_15]; exact rfl) hP
    have hD : va_D A (wX3 E a n_15) := wsd (by rw [en_15]; exact rfl) hD
    refine lv_iload_n hx hb dX3_evening_39 rfl (lv_at hl 0 rfl) ?_
    obtain ⟨rfl, rfl⟩ := so2 hf
    exact rt_i hx hb hr hlocks hP hD hS dX3_evening_40
  refine lv_if_lt (tgt := 31) hx hb dX3_evening_17 (by decide) (fun c8 => ?_) (fun c8 => ?_)
  · have hq11 := ip c8 hq11
    obtain rfl := so1 hq11
    exact J10 _ _ _ hP hD hS (lv_sub hl [0, 1] rfl)
  · have hq11 := im c8 hq11
    refine lv_aload_n hx hb dX3_evening_20 rfl (lv_at hl 1 rfl) ?_
    refine va_get (D := E.1) (ci := 3) (v := .ref ((a 0) 0)) (C := RX3) (T := TX3) (N := 7) hx hb hts inX3 hown hE.2.1 hP 0 rfl rfl 0 (by decide) (hE.w tw_119) (fun _ h9 => h9) rfl dX3_evening_21 ?_
    refine lv_aload_n hx hb dX3_evening_24 rfl (lv_at hl 1 rfl) ?_
    refine va_get (D := E.1) (ci := 3) (v := .ref ((a 1) 0)) (C := RX3) (T := TX3) (N := 7) hx hb hts inX3 hown hE.2.1 hP 0 rfl rfl 1 (by decide) (hE.w tw_120) (fun _ h9 => h9) rfl dX3_evening_25 ?_
    obtain ⟨h13, hc12, hq11⟩ := bd1_some hq11
    obtain ⟨n_14, en_14, hq11⟩ := jn1_some hq11
    refine cVN (X := List.take 1 (wX3 E a n_7)) (Y := List.drop 25 (wX3 E a n_7)) (w := (wX3 E a n_7)) (w' := (wX3 E a n_14)) (q0 := 8) lk_X3_153 hx hb hml hown hE hA (c_X0_become_ht l E (a 2) (a 0) (a 1) (g3_kept n_7) (g3_house n_7) (g3_trial n_7) h13 hc12) rfl (by rw [en_14]; rfl) hP hD hS rfl rfl ⟨rfl, rfl, Nat.le_of_ble_eq_true rfl, Nat.le_of_ble_eq_true rfl⟩ hl.1 (As := [.ref ((a 1) 0)]) (rest := []) rfl rfl (Nat.le_of_ble_eq_true rfl) ⟨Nat.zero_le _, Nat.zero_le _⟩ dX3_evening_28 (fun H locs hP hD hS => ?_)
    refine W.eq (g2 := F0 m 31 ls []) rfl ?_
    obtain rfl := so1 hq11
    exact J10 _ _ _ hP hD hS (lv_sub hl [0, 1] rfl)
