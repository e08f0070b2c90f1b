def lp_X0_endNight_17  : Nat → (Int32) → (HS) → Option (HS)
  | 0, _, _ => none
  | k_3 + 1, v1_3, h_3 => if (g0_people h_3) ≤ v1_3 then some (h_3) else gd v1_3 8 (gd v1_3 8 (bd1 (f_X3_staleness ((g0_kinds h_3) v1_3.toNatClampNeg)) (fun r8 => bd1 (f_X3_held (((g0_freshes h_3) v1_3.toNatClampNeg) - r8) (0 : Int32) (99 : Int32)) (fun r10 => gd v1_3 8 (jn1 (s0_freshes h_3 (upd (g0_freshes h_3) v1_3.toNatClampNeg r10)) (fun h_12 => gd v1_3 8 (jn1 (s0_dids h_12 (upd (g0_dids h_12) v1_3.toNatClampNeg (0 : Int32))) (fun h_14 => lp_X0_endNight_17  k_3 (v1_3 + (1 : Int32)) h_14))))))))
def f_X0_endNight (h : HS) : Option (HS) := jn1 (s0_moment h (0 : Int32)) (fun h_1 => jn1 (s0_night h_1 ((g0_night h_1) + (1 : Int32))) (fun h_2 => lp_X0_endNight_17  FU (0 : Int32) h_2))
set_option maxHeartbeats 4000000 in
set_option maxRecDepth 100000 in
theorem c_X0_endNight (l : Launch) (E : EV) (a : Nat → Nat) (h : HS)  (h' : HS) (hf : f_X0_endNight h = some h') : Ct l E yX0_endNight cX0_endNight 2 (none) (rmk 2 36) [.ref (a 0)] (wX0 E a h) (wX0 E a h') none := by
  refine Ct.of (by decide) (Nat.le_of_ble_eq_true rfl) ?_
  intro p e s m below meth c A ls hC hP hD hl
  obtain ⟨hx, hb, hr, hml, hown, hlocks, hE, hA⟩ := hC
  have hts : ∀ w ∈ tbl, w.before [.ref (a 0)].toArray s = true := fun w hw => hE.w hw
  have hS : va_S A s.heap s.heap [] := va_S.rf
  have hl : lv_has ls 2 [(0, .ref (a 0))] := hl
  unfold f_X0_endNight at hf
  refine lv_aload_n hx hb dX0_endNight_0 rfl (lv_at hl 0 rfl) ?_
  refine lv_iconst (v := (0 : Int32)) hx hb dX0_endNight_1 (by decide) ?_
  obtain ⟨h_1, eh_1, hf⟩ := jn1_some hf
  refine va_put (D := E.1) (ci := 0) (v := .int (0 : Int32)) (ty := .int) (C := RX0) (T := TX0) (N := 10) hx hb hts inX0 tyX0 tyX0_ok nmX0 hown hE.2.1 hP hD hS 0 rfl rfl 1 (by decide) (hE.w tw_28) (fun _ h9 => h9) rfl (by decide +kernel) rfl rfl (Nat.le_of_ble_eq_true rfl) dX0_endNight_2 (fun H locs hP hD hS => ?_)
  have hP : va_P E.1 vwCl (wX0 E a h_1) H := wst (by rw [eh_1]; exact rfl) hP
  have hD : va_D A (wX0 E a h_1) := wsd (by rw [eh_1]; exact rfl) hD
  refine lv_aload_n hx hb dX0_endNight_5 rfl (lv_at hl 0 rfl) ?_
  refine lv_dup hx hb dX0_endNight_6 rfl ?_
  refine va_get (D := E.1) (ci := 0) (v := .int (g0_night h_1)) (C := RX0) (T := TX0) (N := 10) hx hb hts inX0 hown hE.2.1 hP 0 rfl rfl 0 (by decide) (hE.w tw_26) (fun _ h9 => h9) rfl dX0_endNight_7 ?_
  refine lv_iconst (v := (1 : Int32)) hx hb dX0_endNight_10 (by decide) ?_
  refine lv_iadd hx hb dX0_endNight_11 ?_
  obtain ⟨h_2, eh_2, hf⟩ := jn1_some hf
  refine va_put (D := E.1) (ci := 0) (v := .int ((g0_night h_1) + (1 : Int32))) (ty := .int) (C := RX0) (T := TX0) (N := 10) hx hb hts inX0 tyX0 tyX0_ok nmX0 hown hE.2.1 hP hD hS 0 rfl rfl 0 (by decide) (hE.w tw_26) (fun _ h9 => h9) rfl (by decide +kernel) rfl rfl (Nat.le_of_ble_eq_true rfl) dX0_endNight_12 (fun H locs hP hD hS => ?_)
  have hP : va_P E.1 vwCl (wX0 E a h_2) H := wst (by rw [eh_2]; exact rfl) hP
  have hD : va_D A (wX0 E a h_2) := wsd (by rw [eh_2]; exact rfl) hD
  refine lv_iconst (v := (0 : Int32)) hx hb dX0_endNight_15 (by decide) ?_
  refine lv_istore_n (lv' := [(1, .int (0 : Int32)), (0, .ref (a 0))]) hx hb dX0_endNight_16 rfl hl (by decide) rfl (fun ls hl => ?_)
  have L_3 : ∀ (k_3 : Nat) (v1_3 : Int32) (h_3 : HS), lp_X0_endNight_17  k_3 v1_3 h_3 = some h' → ∀ (H : Heap) (locs : List Loc) (ls : Array Slot), va_P E.1 vwCl (wX0 E a h_3) H → va_D A (wX0 E a h_3) → va_S A s.heap H locs → lv_has ls 2 [(1, .int v1_3), (0, .ref (a 0))] → W p l e (rmk 2 36) s m [.ref (a 0)].toArray below meth c H locs 0 0 (MQ below (Qct E A (wX0 E a h') none) [.ref (a 0)].toArray s 0 0 A) (F0 m 17 ls []) := by
    intro k_3
    induction k_3 with
    | zero =>
      intro v1_3 h_3 hf
      rw [lp_X0_endNight_17] at hf
      cases hf
    | succ k_3 ih_3 =>
      intro v1_3 h_3 hf H locs ls hP hD hS hl
      rw [lp_X0_endNight_17] at hf
      refine lv_iload_n hx hb dX0_endNight_17 rfl (lv_at hl 0 rfl) ?_
      refine lv_aload_n hx hb dX0_endNight_18 rfl (lv_at hl 1 rfl) ?_
      refine va_get (D := E.1) (ci := 0) (v := .int (g0_people h_3)) (C := RX0) (T := TX0) (N := 10) hx hb hts inX0 hown hE.2.1 hP 0 rfl rfl 2 (by decide) (hE.w tw_30) (fun _ h9 => h9) rfl dX0_endNight_19 ?_
      refine lv_icmp_ge (tgt := 66) hx hb dX0_endNight_22 (by decide) (fun c4 => ?_) (fun c4 => ?_)
      · have hf := ip c4 hf
        obtain rfl := so1 hf
        exact rt_v hx hb hr hlocks hP hD hS dX0_endNight_66
      · have hf := im c4 hf
        refine lv_aload_n hx hb dX0_endNight_25 rfl (lv_at hl 1 rfl) ?_
        refine va_get (D := E.1) (ci := 0) (v := .ref (a 7)) (C := RX0) (T := TX0) (N := 10) hx hb hts inX0 hown hE.2.1 hP 0 rfl rfl 6 (by decide) (hE.w tw_41) (fun _ h9 => h9) rfl dX0_endNight_26 ?_
        refine lv_iload_n hx hb dX0_endNight_29 rfl (lv_at hl 0 rfl) ?_
        refine lv_aload_n hx hb dX0_endNight_30 rfl (lv_at hl 1 rfl) ?_
        refine va_get (D := E.1) (ci := 0) (v := .ref (a 7)) (C := RX0) (T := TX0) (N := 10) hx hb hts inX0 hown hE.2.1 hP 0 rfl rfl 6 (by decide) (hE.w tw_41) (fun _ h9 => h9) rfl dX0_endNight_31 ?_
        refine lv_iload_n hx hb dX0_endNight_34 rfl (lv_at hl 0 rfl) ?_
        obtain ⟨hg5, hf⟩ := gd_some hf
        refine va_iald hx hb hE.2.1 hP 4 0 rfl rfl hg5 dX0_endNight_35 ?_
        refine lv_aload_n hx hb dX0_endNight_36 rfl (lv_at hl 1 rfl) ?_
        refine va_get (D := E.1) (ci := 0) (v := .ref (a 6)) (C := RX0) (T := TX0) (N := 10) hx hb hts inX0 hown hE.2.1 hP 0 rfl rfl 5 (by decide) (hE.w tw_39) (fun _ h9 => h9) rfl dX0_endNight_37 ?_
        refine lv_iload_n hx hb dX0_endNight_40 rfl (lv_at hl 0 rfl) ?_
        obtain ⟨hg6, hf⟩ := gd_some hf
        refine va_iald hx hb hE.2.1 hP 3 0 rfl rfl hg6 dX0_endNight_41 ?_
        obtain ⟨r8, hc7, hf⟩ := bd1_some hf
        refine cSN (X := List.take 0 (wX0 E a h_3)) (Y := List.drop 0 (wX0 E a h_3)) (w := (wX0 E a h_3)) (w' := (wX0 E a h_3)) lk_X0_95 hx hb hml hown hE hA (c_X3_staleness l E ((g0_kinds h_3) v1_3.toNatClampNeg) r8 hc7) rfl rfl hP hD hS ⟨rfl, rfl, Nat.le_of_ble_eq_true rfl, Nat.le_of_ble_eq_true rfl⟩ hl.1 (As := [.int ((g0_kinds h_3) v1_3.toNatClampNeg)]) (rest := [.int ((g0_freshes h_3) v1_3.toNatClampNeg), .int v1_3, .ref (a 7)]) rfl rfl (Nat.le_of_ble_eq_true rfl) ⟨Nat.zero_le _, Nat.zero_le _⟩ dX0_endNight_42 (fun H locs hP hD hS => ?_)
        refine W.eq (g2 := F0 m 45 ls [.int r8, .int ((g0_freshes h_3) v1_3.toNatClampNeg), .int v1_3, .ref (a 7)]) rfl ?_
        refine lv_isub hx hb dX0_endNight_45 ?_
        refine lv_iconst (v := (0 : Int32)) hx hb dX0_endNight_46 (by decide) ?_
        refine lv_bipush (v := (99 : Int32)) hx hb dX0_endNight_47 (by decide) ?_
        obtain ⟨r10, hc9, hf⟩ := bd1_some hf
        refine cSN (X := List.take 0 (wX0 E a h_3)) (Y := List.drop 0 (wX0 E a h_3)) (w := (wX0 E a h_3)) (w' := (wX0 E a h_3)) lk_X0_89 hx hb hml hown hE hA (c_X3_held l E (((g0_freshes h_3) v1_3.toNatClampNeg) - r8) (0 : Int32) (99 : Int32) r10 hc9) rfl rfl hP hD hS ⟨rfl, rfl, Nat.le_of_ble_eq_true rfl, Nat.le_of_ble_eq_true rfl⟩ hl.1 (As := [.int (((g0_freshes h_3) v1_3.toNatClampNeg) - r8), .int (0 : Int32), .int (99 : Int32)]) (rest := [.int v1_3, .ref (a 7)]) rfl rfl (Nat.le_of_ble_eq_true rfl) ⟨Nat.zero_le _, Nat.zero_le _⟩ dX0_endNight_49 (fun H locs hP hD hS => ?_)
        refine W.eq (g2 := F0 m 52 ls [.int r10, .int v1_3, .ref (a 7)]) rfl ?_
        obtain ⟨hg11, hf⟩ := gd_some hf
        obtain ⟨h_12, eh_12, hf⟩ := jn1_some hf
        refine va_iast hx hb hE.2.1 hP hD hS 4 0 rfl rfl hg11 dX0_endNight_52 (fun H locs hP hD hS => ?_)
        have hP : va_P E.1 vwCl (wX0 E a h_12) H := wst (by rw [eh_12]; exact rfl) hP
        have hD : va_D A (wX0 E a h_12) := wsd (by rw [eh_12]; exact rfl) hD
        refine lv_aload_n hx hb dX0_endNight_53 rfl (lv_at hl 1 rfl) ?_
        refine va_get (D := E.1) (ci := 0) (v := .ref (a 9)) (C := RX0) (T := TX0) (N := 10) hx hb hts inX0 hown hE.2.1 hP 0 rfl rfl 8 (by decide) (hE.w tw_46) (fun _ h9 => h9) rfl dX0_endNight_54 ?_
        refine lv_iload_n hx hb dX0_endNight_57 rfl (lv_at hl 0 rfl) ?_
        refine lv_iconst (v := (0 : Int32)) hx hb dX0_endNight_58 (by decide) ?_
        obtain ⟨hg13, hf⟩ := gd_some hf
        obtain ⟨h_14, eh_14, hf⟩ := jn1_some hf
        refine va_iast hx hb hE.2.1 hP hD hS 6 0 rfl rfl hg13 dX0_endNight_59 (fun H locs hP hD hS => ?_)
        have hP : va_P E.1 vwCl (wX0 E a h_14) H := wst (by rw [eh_14]; exact rfl) hP
        have hD : va_D A (wX0 E a h_14) := wsd (by rw [eh_14]; exact rfl) hD
        refine lv_iinc (v := (v1_3 + (1 : Int32))) (lv' := [(1, .int (v1_3 + (1 : Int32))), (0, .ref (a 0))]) hx hb dX0_endNight_60 hl (k := 0) rfl rfl (by decide) rfl (fun ls hl => ?_)
        refine lv_goto (tgt := 17) hx hb dX0_endNight_63 (by decide) ?_
        exact ih_3 _ _ hf _ _ _ hP hD hS (lv_sub hl [0, 1] rfl)
  exact L_3 _ _ _ hf _ _ _ hP hD hS (lv_sub hl [0, 1] rfl)
def lp_X0_go_39 (v1_2 : Int32) : Nat → (Int32) → (HS) → Option (HS)
  | 0, _, _ => none
  | k_4 + 1, v2_4, h_4 => if (g0_people h_4) ≤ v2_4 then jn1 (s0_moment h_4 ((g0_moment h_4) + (1 : Int32))) (fun h_6 => if (g0_moment h_6) < (16 : Int32) then some (h_6) else bd1 (f_X0_endNight h_6) (fun h9 => some (h9))) else gd v2_4 8 (gd v2_4 8 (gd v2_4 8 (bd1 (f_X3_scoreFor ((g0_kinds h_4) v2_4.toNatClampNeg) ((g0_deeds h_4) v2_4.toNatClampNeg) v1_2) (fun r14 => bd1 (f_X3_held (((g0_notes h_4) v2_4.toNatClampNeg) + r14) (-9999 : Int32) (9999 : Int32)) (fun r16 => gd v2_4 8 (jn1 (s0_notes h_4 (upd (g0_notes h_4) v2_4.toNatClampNeg r16)) (fun h_18 => gd v2_4 8 (gd v2_4 8 (jn1 (s0_dids h_18 (upd (g0_dids h_18) v2_4.toNatClampNeg ((g0_deeds h_18) v2_4.toNatClampNeg))) (fun h_21 => lp_X0_go_39 v1_2 k_4 (v2_4 + (1 : Int32)) h_21))))))))))
def lp_X0_go_12  : Nat → (Int32) → (Int32) → (HS) → Option (HS)
  | 0, _, _, _ => none
  | k_2 + 1, v2_2, v1_2, h_2 => if (g0_people h_2) ≤ v2_2 then lp_X0_go_39 v1_2 FU (0 : Int32) h_2 else bd1 (f_X0_deedOf h_2 v2_2) (fun r23 => gd v2_2 8 (jn1 (s0_deeds h_2 (upd (g0_deeds h_2) v2_2.toNatClampNeg r23)) (fun h_25 => lp_X0_go_12  k_2 (v2_2 + (1 : Int32)) v1_2 h_25)))
def f_X0_go (h : HS) : Option (HS) := gd (g0_moment h) 16 (lp_X0_go_12  FU (0 : Int32) ((g0_cues h) (g0_moment h).toNatClampNeg) h)
set_option maxHeartbeats 4000000 in
set_option maxRecDepth 100000 in
theorem c_X0_go (l : Launch) (E : EV) (a : Nat → Nat) (h : HS)  (h' : HS) (hf : f_X0_go h = some h') : Ct l E yX0_go cX0_go 3 (none) (rmk 3 64) [.ref (a 0)] (wX0 E a h) (wX0 E a h') none := by
  refine Ct.of (by decide) (Nat.le_of_ble_eq_true rfl) ?_
  intro p e s m below meth c A ls hC hP hD hl
  obtain ⟨hx, hb, hr, hml, hown, hlocks, hE, hA⟩ := hC
  have hts : ∀ w ∈ tbl, w.before [.ref (a 0)].toArray s = true := fun w hw => hE.w hw
  have hS : va_S A s.heap s.heap [] := va_S.rf
  have hl : lv_has ls 3 [(0, .ref (a 0))] := hl
  unfold f_X0_go at hf
  refine lv_aload_n hx hb dX0_go_0 rfl (lv_at hl 0 rfl) ?_
  refine va_get (D := E.1) (ci := 0) (v := .ref (a 4)) (C := RX0) (T := TX0) (N := 10) hx hb hts inX0 hown hE.2.1 hP 0 rfl rfl 3 (by decide) (hE.w tw_33) (fun _ h9 => h9) rfl dX0_go_1 ?_
  refine lv_aload_n hx hb dX0_go_4 rfl (lv_at hl 0 rfl) ?_
  refine va_get (D := E.1) (ci := 0) (v := .int (g0_moment h)) (C := RX0) (T := TX0) (N := 10) hx hb hts inX0 hown hE.2.1 hP 0 rfl rfl 1 (by decide) (hE.w tw_28) (fun _ h9 => h9) rfl dX0_go_5 ?_
  obtain ⟨hg1, hf⟩ := gd_some hf
  refine va_iald hx hb hE.2.1 hP 1 0 rfl rfl hg1 dX0_go_8 ?_
  refine lv_istore_n (lv' := [(1, .int ((g0_cues h) (g0_moment h).toNatClampNeg)), (0, .ref (a 0))]) hx hb dX0_go_9 rfl hl (by decide) rfl (fun ls hl => ?_)
  refine lv_iconst (v := (0 : Int32)) hx hb dX0_go_10 (by decide) ?_
  refine lv_istore_n (lv' := [(2, .int (0 : Int32)), (1, .int ((g0_cues h) (g0_moment h).toNatClampNeg)), (0, .ref (a 0))]) hx hb dX0_go_11 rfl hl (by decide) rfl (fun ls hl => ?_)
  have L_2 : ∀ (k_2 : Nat) (v2_2 : Int32) (v1_2 : Int32) (h_2 : HS), lp_X0_go_12  k_2 v2_2 v1_2 h_2 = some h' → ∀ (H : Heap) (locs : List Loc) (ls : Array Slot), va_P E.1 vwCl (wX0 E a h_2) H → va_D A (wX0 E a h_2) → va_S A s.heap H locs → lv_has ls 3 [(2, .int v2_2), (1, .int v1_2), (0, .ref (a 0))] → W p l e (rmk 3 64) s m [.ref (a 0)].toArray below meth c H locs 0 0 (MQ below (Qct E A (wX0 E a h') none) [.ref (a 0)].toArray s 0 0 A) (F0 m 12 ls []) := by
    intro k_2
    induction k_2 with
    | zero =>
      intro v2_2 v1_2 h_2 hf
      rw [lp_X0_go_12] at hf
      cases hf
    | succ k_2 ih_2 =>
      intro v2_2 v1_2 h_2 hf H locs ls hP hD hS hl
      rw [lp_X0_go_12] at hf
      refine lv_iload_n hx hb dX0_go_12 rfl (lv_at hl 0 rfl) ?_
      refine lv_aload_n hx hb dX0_go_13 rfl (lv_at hl 2 rfl) ?_
      refine va_get (D := E.1) (ci := 0) (v := .int (g0_people h_2)) (C := RX0) (T := TX0) (N := 10) hx hb hts inX0 hown hE.2.1 hP 0 rfl rfl 2 (by decide) (hE.w tw_30) (fun _ h9 => h9) rfl dX0_go_14 ?_
      refine lv_icmp_ge (tgt := 37) hx hb dX0_go_17 (by decide) (fun c3 => ?_) (fun c3 => ?_)
      · have hf := ip c3 hf
        refine lv_iconst (v := (0 : Int32)) hx hb dX0_go_37 (by decide) ?_
        refine lv_istore_n (lv' := [(2, .int (0 : Int32)), (1, .int v1_2), (0, .ref (a 0))]) hx hb dX0_go_38 rfl hl (by decide) rfl (fun ls hl => ?_)
        have L_4 : ∀ (k_4 : Nat) (v2_4 : Int32) (h_4 : HS), lp_X0_go_39 v1_2 k_4 v2_4 h_4 = some h' → ∀ (H : Heap) (locs : List Loc) (ls : Array Slot), va_P E.1 vwCl (wX0 E a h_4) H → va_D A (wX0 E a h_4) → va_S A s.heap H locs → lv_has ls 3 [(2, .int v2_4), (1, .int v1_2), (0, .ref (a 0))] → W p l e (rmk 3 64) s m [.ref (a 0)].toArray below meth c H locs 0 0 (MQ below (Qct E A (wX0 E a h') none) [.ref (a 0)].toArray s 0 0 A) (F0 m 39 ls []) := by
          intro k_4
          induction k_4 with
          | zero =>
            intro v2_4 h_4 hf
            rw [lp_X0_go_39] at hf
            cases hf
          | succ k_4 ih_4 =>
            intro v2_4 h_4 hf H locs ls hP hD hS hl
            rw [lp_X0_go_39] at hf
            refine lv_iload_n hx hb dX0_go_39 rfl (lv_at hl 0 rfl) ?_
            refine lv_aload_n hx hb dX0_go_40 rfl (lv_at hl 2 rfl) ?_
            refine va_get (D := E.1) (ci := 0) (v := .int (g0_people h_4)) (C := RX0) (T := TX0) (N := 10) hx hb hts inX0 hown hE.2.1 hP 0 rfl rfl 2 (by decide) (hE.w tw_30) (fun _ h9 => h9) rfl dX0_go_41 ?_
            refine lv_icmp_ge (tgt := 103) hx hb dX0_go_44 (by decide) (fun c5 => ?_) (fun c5 => ?_)
            · have hf := ip c5 hf
              refine lv_aload_n hx hb dX0_go_103 rfl (lv_at hl 2 rfl) ?_
              refine lv_dup hx hb dX0_go_104 rfl ?_
              refine va_get (D := E.1) (ci := 0) (v := .int (g0_moment h_4)) (C := RX0) (T := TX0) (N := 10) hx hb hts inX0 hown hE.2.1 hP 0 rfl rfl 1 (by decide) (hE.w tw_28) (fun _ h9 => h9) rfl dX0_go_105 ?_
              refine lv_iconst (v := (1 : Int32)) hx hb dX0_go_108 (by decide) ?_
              refine lv_iadd hx hb dX0_go_109 ?_
              obtain ⟨h_6, eh_6, hf⟩ := jn1_some hf
              refine va_put (D := E.1) (ci := 0) (v := .int ((g0_moment h_4) + (1 : Int32))) (ty := .int) (C := RX0) (T := TX0) (N := 10) hx hb hts inX0 tyX0 tyX0_ok nmX0 hown hE.2.1 hP hD hS 0 rfl rfl 1 (by decide) (hE.w tw_28) (fun _ h9 => h9) rfl (by decide +kernel) rfl rfl (Nat.le_of_ble_eq_true rfl) dX0_go_110 (fun H locs hP hD hS => ?_)
              have hP : va_P E.1 vwCl (wX0 E a h_6) H := wst (by rw [eh_6]; exact rfl) hP
              have hD : va_D A (wX0 E a h_6) := wsd (by rw [eh_6]; exact rfl) hD
              refine lv_aload_n hx hb dX0_go_113 rfl (lv_at hl 2 rfl) ?_
              refine va_get (D := E.1) (ci := 0) (v := .int (g0_moment h_6)) (C := RX0) (T := TX0) (N := 10) hx hb hts inX0 hown hE.2.1 hP 0 rfl rfl 1 (by decide) (hE.w tw_28) (fun _ h9 => h9) rfl dX0_go_114 ?_
              refine lv_bipush (v := (16 : Int32)) hx hb dX0_go_117 (by decide) ?_
              refine lv_icmp_lt (tgt := 126) hx hb dX0_go_119 (by decide) (fun c7 => ?_) (fun c7 => ?_)
              · have hf := ip c7 hf
                obtain rfl := so1 hf
                exact rt_v hx hb hr hlocks hP hD hS dX0_go_126
              · have hf := im c7 hf
                refine lv_aload_n hx hb dX0_go_122 rfl (lv_at hl 2 rfl) ?_
                obtain ⟨h9, hc8, hf⟩ := bd1_some hf
                refine cV (X := List.take 0 (wX0 E a h_6)) (Y := List.drop 8 (wX0 E a h_6)) (w := (wX0 E a h_6)) (w' := (wX0 E a h9)) (q0 := 0) lk_X0_92 hx hb hml hown hE hA (c_X0_endNight l E a h_6 h9 hc8) rfl rfl hP hD hS rfl rfl ⟨rfl, rfl, Nat.le_of_ble_eq_true rfl, Nat.le_of_ble_eq_true rfl⟩ hl.1 (As := []) (rest := []) rfl rfl (Nat.le_of_ble_eq_true rfl) ⟨Nat.zero_le _, Nat.zero_le _⟩ dX0_go_123 (fun H locs hP hD hS => ?_)
                refine W.eq (g2 := F0 m 126 ls []) rfl ?_
                obtain rfl := so1 hf
                exact rt_v hx hb hr hlocks hP hD hS dX0_go_126
            · have hf := im c5 hf
              refine lv_aload_n hx hb dX0_go_47 rfl (lv_at hl 2 rfl) ?_
              refine va_get (D := E.1) (ci := 0) (v := .ref (a 8)) (C := RX0) (T := TX0) (N := 10) hx hb hts inX0 hown hE.2.1 hP 0 rfl rfl 7 (by decide) (hE.w tw_44) (fun _ h9 => h9) rfl dX0_go_48 ?_
              refine lv_iload_n hx hb dX0_go_51 rfl (lv_at hl 0 rfl) ?_
              refine lv_aload_n hx hb dX0_go_52 rfl (lv_at hl 2 rfl) ?_
              refine va_get (D := E.1) (ci := 0) (v := .ref (a 8)) (C := RX0) (T := TX0) (N := 10) hx hb hts inX0 hown hE.2.1 hP 0 rfl rfl 7 (by decide) (hE.w tw_44) (fun _ h9 => h9) rfl dX0_go_53 ?_
              refine lv_iload_n hx hb dX0_go_56 rfl (lv_at hl 0 rfl) ?_
              obtain ⟨hg10, hf⟩ := gd_some hf
              refine va_iald hx hb hE.2.1 hP 5 0 rfl rfl hg10 dX0_go_57 ?_
              refine lv_aload_n hx hb dX0_go_58 rfl (lv_at hl 2 rfl) ?_
              refine va_get (D := E.1) (ci := 0) (v := .ref (a 6)) (C := RX0) (T := TX0) (N := 10) hx hb hts inX0 hown hE.2.1 hP 0 rfl rfl 5 (by decide) (hE.w tw_39) (fun _ h9 => h9) rfl dX0_go_59 ?_
              refine lv_iload_n hx hb dX0_go_62 rfl (lv_at hl 0 rfl) ?_
              obtain ⟨hg11, hf⟩ := gd_some hf
              refine va_iald hx hb hE.2.1 hP 3 0 rfl rfl hg11 dX0_go_63 ?_
              refine lv_aload_n hx hb dX0_go_64 rfl (lv_at hl 2 rfl) ?_
              refine va_get (D := E.1) (ci := 0) (v := .ref (a 10)) (C := RX0) (T := TX0) (N := 10) hx hb hts inX0 hown hE.2.1 hP 0 rfl rfl 9 (by decide) (hE.w tw_48) (fun _ h9 => h9) rfl dX0_go_65 ?_
              refine lv_iload_n hx hb dX0_go_68 rfl (lv_at hl 0 rfl) ?_
              obtain ⟨hg12, hf⟩ := gd_some hf
              refine va_iald hx hb hE.2.1 hP 7 0 rfl rfl hg12 dX0_go_69 ?_
              refine lv_iload_n hx hb dX0_go_70 rfl (lv_at hl 1 rfl) ?_
              obtain ⟨r14, hc13, hf⟩ := bd1_some hf
              refine cSN (X := List.take 0 (wX0 E a h_4)) (Y := List.drop 0 (wX0 E a h_4)) (w := (wX0 E a h_4)) (w' := (wX0 E a h_4)) lk_X0_85 hx hb hml hown hE hA (c_X3_scoreFor l E ((g0_kinds h_4) v2_4.toNatClampNeg) ((g0_deeds h_4) v2_4.toNatClampNeg) v1_2 r14 hc13) rfl rfl hP hD hS ⟨rfl, rfl, Nat.le_of_ble_eq_true rfl, Nat.le_of_ble_eq_true rfl⟩ hl.1 (As := [.int ((g0_kinds h_4) v2_4.toNatClampNeg), .int ((g0_deeds h_4) v2_4.toNatClampNeg), .int v1_2]) (rest := [.int ((g0_notes h_4) v2_4.toNatClampNeg), .int v2_4, .ref (a 8)]) rfl rfl (Nat.le_of_ble_eq_true rfl) ⟨Nat.zero_le _, Nat.zero_le _⟩ dX0_go_71 (fun H locs hP hD hS => ?_)
              refine W.eq (g2 := F0 m 74 ls [.int r14, .int ((g0_notes h_4) v2_4.toNatClampNeg), .int v2_4, .ref (a 8)]) rfl ?_
              refine lv_iadd hx hb dX0_go_74 ?_
              refine lv_sipush (v := (-9999 : Int32)) hx hb dX0_go_75 (by decide) ?_
              refine lv_sipush (v := (9999 : Int32)) hx hb dX0_go_78 (by decide) ?_
              obtain ⟨r16, hc15, hf⟩ := bd1_some hf
              refine cSN (X := List.take 0 (wX0 E a h_4)) (Y := List.drop 0 (wX0 E a h_4)) (w := (wX0 E a h_4)) (w' := (wX0 E a h_4)) lk_X0_89 hx hb hml hown hE hA (c_X3_held l E (((g0_notes h_4) v2_4.toNatClampNeg) + r14) (-9999 : Int32) (9999 : Int32) r16 hc15) rfl rfl hP hD hS ⟨rfl, rfl, Nat.le_of_ble_eq_true rfl, Nat.le_of_ble_eq_true rfl⟩ hl.1 (As := [.int (((g0_notes h_4) v2_4.toNatClampNeg) + r14), .int (-9999 : Int32), .int (9999 : Int32)]) (rest := [.int v2_4, .ref (a 8)]) rfl rfl (Nat.le_of_ble_eq_true rfl) ⟨Nat.zero_le _, Nat.zero_le _⟩ dX0_go_81 (fun H locs hP hD hS => ?_)
              refine W.eq (g2 := F0 m 84 ls [.int r16, .int v2_4, .ref (a 8)]) rfl ?_
              obtain ⟨hg17, hf⟩ := gd_some hf
              obtain ⟨h_18, eh_18, hf⟩ := jn1_some hf
              refine va_iast hx hb hE.2.1 hP hD hS 5 0 rfl rfl hg17 dX0_go_84 (fun H locs hP hD hS => ?_)
              have hP : va_P E.1 vwCl (wX0 E a h_18) H := wst (by rw [eh_18]; exact rfl) hP
              have hD : va_D A (wX0 E a h_18) := wsd (by rw [eh_18]; exact rfl) hD
              refine lv_aload_n hx hb dX0_go_85 rfl (lv_at hl 2 rfl) ?_
              refine va_get (D := E.1) (ci := 0) (v := .ref (a 9)) (C := RX0) (T := TX0) (N := 10) hx hb hts inX0 hown hE.2.1 hP 0 rfl rfl 8 (by decide) (hE.w tw_46) (fun _ h9 => h9) rfl dX0_go_86 ?_
              refine lv_iload_n hx hb dX0_go_89 rfl (lv_at hl 0 rfl) ?_
              refine lv_aload_n hx hb dX0_go_90 rfl (lv_at hl 2 rfl) ?_
              refine va_get (D := E.1) (ci := 0) (v := .ref (a 10)) (C := RX0) (T := TX0) (N := 10) hx hb hts inX0 hown hE.2.1 hP 0 rfl rfl 9 (by decide) (hE.w tw_48) (fun _ h9 => h9) rfl dX0_go_91 ?_
              refine lv_iload_n hx hb dX0_go_94 rfl (lv_at hl 0 rfl) ?_
              obtain ⟨hg19, hf⟩ := gd_some hf
              refine va_iald hx hb hE.2.1 hP 7 0 rfl rfl hg19 dX0_go_95 ?_
              obtain ⟨hg20, hf⟩ := gd_some hf
              obtain ⟨h_21, eh_21, hf⟩ := jn1_some hf
              refine va_iast hx hb hE.2.1 hP hD hS 6 0 rfl rfl hg20 dX0_go_96 (fun H locs hP hD hS => ?_)
              have hP : va_P E.1 vwCl (wX0 E a h_21) H := wst (by rw [eh_21]; exact rfl) hP
              have hD : va_D A (wX0 E a h_21) := wsd (by rw [eh_21]; exact rfl) hD
              refine lv_iinc (v := (v2_4 + (1 : Int32))) (lv' := [(2, .int (v2_4 + (1 : Int32))), (1, .int v1_2), (0, .ref (a 0))]) hx hb dX0_go_97 hl (k := 0) rfl rfl (by decide) rfl (fun ls hl => ?_)
              refine lv_goto (tgt := 39) hx hb dX0_go_100 (by decide) ?_
              exact ih_4 _ _ hf _ _ _ hP hD hS (lv_sub hl [0, 1, 2] rfl)
        exact L_4 _ _ _ hf _ _ _ hP hD hS (lv_sub hl [0, 1, 2] rfl)
      · have hf := im c3 hf
        refine lv_aload_n hx hb dX0_go_20 rfl (lv_at hl 2 rfl) ?_
        refine va_get (D := E.1) (ci := 0) (v := .ref (a 10)) (C := RX0) (T := TX0) (N := 10) hx hb hts inX0 hown hE.2.1 hP 0 rfl rfl 9 (by decide) (hE.w tw_48) (fun _ h9 => h9) rfl dX0_go_21 ?_
        refine lv_iload_n hx hb dX0_go_24 rfl (lv_at hl 0 rfl) ?_
        refine lv_aload_n hx hb dX0_go_25 rfl (lv_at hl 2 rfl) ?_
        refine lv_iload_n hx hb dX0_go_26 rfl (lv_at hl 0 rfl) ?_
        obtain ⟨r23, hc22, hf⟩ := bd1_some hf
        refine cV (X := List.take 0 (wX0 E a h_2)) (Y := List.drop 8 (wX0 E a h_2)) (w := (wX0 E a h_2)) (w' := (wX0 E a h_2)) (q0 := 0) lk_X0_57 hx hb hml hown hE hA (c_X0_deedOf l E a h_2 v2_2 r23 hc22) rfl rfl hP hD hS rfl rfl ⟨rfl, rfl, Nat.le_of_ble_eq_true rfl, Nat.le_of_ble_eq_true rfl⟩ hl.1 (As := [.int v2_2]) (rest := [.int v2_2, .ref (a 10)]) rfl rfl (Nat.le_of_ble_eq_true rfl) ⟨Nat.zero_le _, Nat.zero_le _⟩ dX0_go_27 (fun H locs hP hD hS => ?_)
        refine W.eq (g2 := F0 m 30 ls [.int r23, .int v2_2, .ref (a 10)]) rfl ?_
        obtain ⟨hg24, hf⟩ := gd_some hf
        obtain ⟨h_25, eh_25, hf⟩ := jn1_some hf
        refine va_iast hx hb hE.2.1 hP hD hS 7 0 rfl rfl hg24 dX0_go_30 (fun H locs hP hD hS => ?_)
        have hP : va_P E.1 vwCl (wX0 E a h_25) H := wst (by rw [eh_25]; exact rfl) hP
        have hD : va_D A (wX0 E a h_25) := wsd (by rw [eh_25]; exact rfl) hD
        refine lv_iinc (v := (v2_2 + (1 : Int32))) (lv' := [(2, .int (v2_2 + (1 : Int32))), (1, .int v1_2), (0, .ref (a 0))]) hx hb dX0_go_31 hl (k := 0) rfl rfl (by decide) rfl (fun ls hl => ?_)
        refine lv_goto (tgt := 12) hx hb dX0_go_34 (by decide) ?_
        exact ih_2 _ _ _ hf _ _ _ hP hD hS (lv_sub hl [0, 1, 2] rfl)
  exact L_2 _ _ _ _ hf _ _ _ hP hD hS (lv_sub hl [0, 1, 2] rfl)
def lp_X0_goOn_2 (p1 : Int32) : Nat → (Int32) → (HS) → Option (HS)
  | 0, _, _ => none
  | k_1 + 1, v2_1, h_1 => if p1 ≤ v2_1 then some (h_1) else bd1 (f_X0_go h_1) (fun h4 => lp_X0_goOn_2 p1 k_1 (v2_1 + (1 : Int32)) h4)
def f_X0_goOn (h : HS) (p1 : Int32) : Option (HS) := lp_X0_goOn_2 p1 FU (0 : Int32) h
set_option maxHeartbeats 4000000 in
set_option maxRecDepth 100000 in
theorem c_X0_goOn (l : Launch) (E : EV) (a : Nat → Nat) (h : HS) (p1 : Int32)  (h' : HS) (hf : f_X0_goOn h p1 = some h') : Ct l E yX0_goOn cX0_goOn 3 (none) (rmk 4 86) [.ref (a 0), .int p1] (wX0 E a h) (wX0 E a h') none := by
  refine Ct.of (by decide) (Nat.le_of_ble_eq_true rfl) ?_
  intro p e s m below meth c A ls hC hP hD hl
  obtain ⟨hx, hb, hr, hml, hown, hlocks, hE, hA⟩ := hC
  have hts : ∀ w ∈ tbl, w.before [.ref (a 0), .int p1].toArray s = true := fun w hw => hE.w hw
  have hS : va_S A s.heap s.heap [] := va_S.rf
  have hl : lv_has ls 3 [(0, .ref (a 0)), (1, .int p1)] := hl
  unfold f_X0_goOn at hf
  refine lv_iconst (v := (0 : Int32)) hx hb dX0_goOn_0 (by decide) ?_
  refine lv_istore_n (lv' := [(2, .int (0 : Int32)), (0, .ref (a 0)), (1, .int p1)]) hx hb dX0_goOn_1 rfl hl (by decide) rfl (fun ls hl => ?_)
  have L_1 : ∀ (k_1 : Nat) (v2_1 : Int32) (h_1 : HS), lp_X0_goOn_2 p1 k_1 v2_1 h_1 = some h' → ∀ (H : Heap) (locs : List Loc) (ls : Array Slot), va_P E.1 vwCl (wX0 E a h_1) H → va_D A (wX0 E a h_1) → va_S A s.heap H locs → lv_has ls 3 [(2, .int v2_1), (0, .ref (a 0)), (1, .int p1)] → W p l e (rmk 4 86) s m [.ref (a 0), .int p1].toArray below meth c H locs 0 0 (MQ below (Qct E A (wX0 E a h') none) [.ref (a 0), .int p1].toArray s 0 0 A) (F0 m 2 ls []) := by
    intro k_1
    induction k_1 with
    | zero =>
      intro v2_1 h_1 hf
      rw [lp_X0_goOn_2] at hf
      cases hf
    | succ k_1 ih_1 =>
      intro v2_1 h_1 hf H locs ls hP hD hS hl
      rw [lp_X0_goOn_2] at hf
      refine lv_iload_n hx hb dX0_goOn_2 rfl (lv_at hl 0 rfl) ?_
      refine lv_iload_n hx hb dX0_goOn_3 rfl (lv_at hl 2 rfl) ?_
      refine lv_icmp_ge (tgt := 17) hx hb dX0_goOn_4 (by decide) (fun c2 => ?_) (fun c2 => ?_)
      · have hf := ip c2 hf
        obtain rfl := so1 hf
        exact rt_v hx hb hr hlocks hP hD hS dX0_goOn_17
      · have hf := im c2 hf
        refine lv_aload_n hx hb dX0_goOn_7 rfl (lv_at hl 1 rfl) ?_
        obtain ⟨h4, hc3, hf⟩ := bd1_some hf
        refine cV (X := List.take 0 (wX0 E a h_1)) (Y := List.drop 8 (wX0 E a h_1)) (w := (wX0 E a h_1)) (w' := (wX0 E a h4)) (q0 := 0) lk_X0_82 hx hb hml hown hE hA (c_X0_go l E a h_1 h4 hc3) rfl rfl hP hD hS rfl rfl ⟨rfl, rfl, Nat.le_of_ble_eq_true rfl, Nat.le_of_ble_eq_true rfl⟩ hl.1 (As := []) (rest := []) rfl rfl (Nat.le_of_ble_eq_true rfl) ⟨Nat.zero_le _, Nat.zero_le _⟩ dX0_goOn_8 (fun H locs hP hD hS => ?_)
        refine W.eq (g2 := F0 m 11 ls []) rfl ?_
        refine lv_iinc (v := (v2_1 + (1 : Int32))) (lv' := [(2, .int (v2_1 + (1 : Int32))), (0, .ref (a 0)), (1, .int p1)]) hx hb dX0_goOn_11 hl (k := 0) rfl rfl (by decide) rfl (fun ls hl => ?_)
        refine lv_goto (tgt := 2) hx hb dX0_goOn_14 (by decide) ?_
        exact ih_1 _ _ hf _ _ _ hP hD hS (lv_sub hl [0, 1, 2] rfl)
  exact L_1 _ _ _ hf _ _ _ hP hD hS (lv_sub hl [0, 1, 2] rfl)
def f_X0_allNotesOn (h : HS) (p1 : Int32) : Option (Int32 × HS) := bd1 (f_X0_goOn h p1) (fun h2 => bd1 (f_X0_allNotes h2) (fun r4 => some (r4, h2)))
set_option maxHeartbeats 4000000 in
set_option maxRecDepth 100000 in
theorem c_X0_allNotesOn (l : Launch) (E : EV) (a : Nat → Nat) (h : HS) (p1 : Int32)  (r : Int32) (h' : HS) (hf : f_X0_allNotesOn h p1 = some (r, h')) : Ct l E yX0_allNotesOn cX0_allNotesOn 2 ((Option.some FieldType.int)) (rmk 5 108) [.ref (a 0), .int p1] (wX0 E a h) (wX0 E a h') (some (.int r)) := by
  refine Ct.of (by decide) (Nat.le_of_ble_eq_true rfl) ?_
  intro p e s m below meth c A ls hC hP hD hl
  obtain ⟨hx, hb, hr, hml, hown, hlocks, hE, hA⟩ := hC
  have hts : ∀ w ∈ tbl, w.before [.ref (a 0), .int p1].toArray s = true := fun w hw => hE.w hw
  have hS : va_S A s.heap s.heap [] := va_S.rf
  have hl : lv_has ls 2 [(0, .ref (a 0)), (1, .int p1)] := hl
  unfold f_X0_allNotesOn at hf
  refine lv_aload_n hx hb dX0_allNotesOn_0 rfl (lv_at hl 0 rfl) ?_
  refine lv_iload_n hx hb dX0_allNotesOn_1 rfl (lv_at hl 1 rfl) ?_
  obtain ⟨h2, hc1, hf⟩ := bd1_some hf
  refine cV (X := List.take 0 (wX0 E a h)) (Y := List.drop 8 (wX0 E a h)) (w := (wX0 E a h)) (w' := (wX0 E a h2)) (q0 := 0) lk_X0_74 hx hb hml hown hE hA (c_X0_goOn l E a h p1 h2 hc1) rfl rfl hP hD hS rfl rfl ⟨rfl, rfl, Nat.le_of_ble_eq_true rfl, Nat.le_of_ble_eq_true rfl⟩ hl.1 (As := [.int p1]) (rest := []) rfl rfl (Nat.le_of_ble_eq_true rfl) ⟨Nat.zero_le _, Nat.zero_le _⟩ dX0_allNotesOn_2 (fun H locs hP hD hS => ?_)
  refine W.eq (g2 := F0 m 5 ls []) rfl ?_
  refine lv_aload_n hx hb dX0_allNotesOn_5 rfl (lv_at hl 0 rfl) ?_
  obtain ⟨r4, hc3, hf⟩ := bd1_some hf
  refine cV (X := List.take 0 (wX0 E a h2)) (Y := List.drop 8 (wX0 E a h2)) (w := (wX0 E a h2)) (w' := (wX0 E a h2)) (q0 := 0) lk_X0_78 hx hb hml hown hE hA (c_X0_allNotes l E a h2 r4 hc3) rfl rfl hP hD hS rfl rfl ⟨rfl, rfl, Nat.le_of_ble_eq_true rfl, Nat.le_of_ble_eq_true rfl⟩ hl.1 (As := []) (rest := []) rfl rfl (Nat.le_of_ble_eq_true rfl) ⟨Nat.zero_le _, Nat.zero_le _⟩ dX0_allNotesOn_6 (fun H locs hP hD hS => ?_)
  refine W.eq (g2 := F0 m 9 ls [.int r4]) rfl ?_
  obtain ⟨rfl, rfl⟩ := so2 hf
  exact rt_i hx hb hr hlocks hP hD hS dX0_allNotesOn_9
