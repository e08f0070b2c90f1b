def f_X0_become_th (k0 : HS) (h0 : HS) (t0 : HS) : Option (HS) := jn1 (s0_night t0 (g0_night h0)) (fun t_1 => jn1 (s0_moment t_1 (g0_moment h0)) (fun t_2 => jn1 (s0_people t_2 (g0_people h0)) (fun t_3 => gc (0 : Int32) (0 : Int32) (16 : Int32) 16 16 (jn1 (s0_cues t_3 (va_cpy (g0_cues h0) (g0_cues t_3) (0 : Int32).toNatClampNeg (0 : Int32).toNatClampNeg (16 : Int32).toNatClampNeg)) (fun t_5 => gc (0 : Int32) (0 : Int32) (16 : Int32) 16 16 (jn1 (s0_tenses t_5 (va_cpy (g0_tenses h0) (g0_tenses t_5) (0 : Int32).toNatClampNeg (0 : Int32).toNatClampNeg (16 : Int32).toNatClampNeg)) (fun t_7 => gc (0 : Int32) (0 : Int32) (g0_people t_7) 8 8 (jn1 (s0_kinds t_7 (va_cpy (g0_kinds h0) (g0_kinds t_7) (0 : Int32).toNatClampNeg (0 : Int32).toNatClampNeg (g0_people t_7).toNatClampNeg)) (fun t_9 => gc (0 : Int32) (0 : Int32) (g0_people t_9) 8 8 (jn1 (s0_freshes t_9 (va_cpy (g0_freshes h0) (g0_freshes t_9) (0 : Int32).toNatClampNeg (0 : Int32).toNatClampNeg (g0_people t_9).toNatClampNeg)) (fun t_11 => gc (0 : Int32) (0 : Int32) (g0_people t_11) 8 8 (jn1 (s0_notes t_11 (va_cpy (g0_notes h0) (g0_notes t_11) (0 : Int32).toNatClampNeg (0 : Int32).toNatClampNeg (g0_people t_11).toNatClampNeg)) (fun t_13 => gc (0 : Int32) (0 : Int32) (g0_people t_13) 8 8 (jn1 (s0_dids t_13 (va_cpy (g0_dids h0) (g0_dids t_13) (0 : Int32).toNatClampNeg (0 : Int32).toNatClampNeg (g0_people t_13).toNatClampNeg)) (fun t_15 => some (t_15))))))))))))))))
set_option maxHeartbeats 4000000 in
set_option maxRecDepth 100000 in
theorem c_X0_become_th (l : Launch) (E : EV) (a : Nat → Nat) (b : Nat → Nat) (d : Nat → Nat) (k0 : HS) (h0 : HS) (t0 : HS)  (t0' : HS) (hf : f_X0_become_th k0 h0 t0 = some t0') : Ct l E yX0_become cX0_become 2 (none) (rmk 1 40) [.ref (d 0), .ref (b 0)] (wX0 E a k0 ++ (wX0 E b h0 ++ wX0 E d t0)) (wX0 E a k0 ++ (wX0 E b h0 ++ wX0 E d t0')) none := by
  refine Ct.of (by decide) (Nat.le_of_ble_eq_true rfl) ?_
  intro p e s m below meth c A ls hC hP hD hl
  obtain ⟨hx, hb, hr, hml, hown, hlocks, hE, hA⟩ := hC
  have hts : ∀ w ∈ tbl, w.before [.ref (d 0), .ref (b 0)].toArray s = true := fun w hw => hE.w hw
  have hS : va_S A s.heap s.heap [] := va_S.rf
  have hl : lv_has ls 2 [(0, .ref (d 0)), (1, .ref (b 0))] := hl
  unfold f_X0_become_th at hf
  refine lv_aload_n hx hb dX0_become_0 rfl (lv_at hl 0 rfl) ?_
  refine lv_aload_n hx hb dX0_become_1 rfl (lv_at hl 1 rfl) ?_
  refine va_get (D := E.1) (ci := 0) (v := .int (g0_night h0)) (C := RX0) (T := TX0) (N := 10) hx hb hts inX0 hown hE.2.1 hP 8 rfl rfl 0 (by decide) (hE.w tw_26) (fun _ h9 => h9) rfl dX0_become_2 ?_
  obtain ⟨t_1, et_1, hf⟩ := jn1_some hf
  refine va_put (D := E.1) (ci := 0) (v := .int (g0_night h0)) (ty := .int) (C := RX0) (T := TX0) (N := 10) hx hb hts inX0 tyX0 tyX0_ok nmX0 hown hE.2.1 hP hD hS 16 rfl rfl 0 (by decide) (hE.w tw_26) (fun _ h9 => h9) rfl (by decide +kernel) rfl rfl (Nat.le_of_ble_eq_true rfl) dX0_become_5 (fun H locs hP hD hS => ?_)
  have hP : va_P E.1 vwCl (wX0 E a k0 ++ (wX0 E b h0 ++ wX0 E d t_1)) H := wst (by rw [et_1]; exact rfl) hP
  have hD : va_D A (wX0 E a k0 ++ (wX0 E b h0 ++ wX0 E d t_1)) := wsd (by rw [et_1]; exact rfl) hD
  refine lv_aload_n hx hb dX0_become_8 rfl (lv_at hl 0 rfl) ?_
  refine lv_aload_n hx hb dX0_become_9 rfl (lv_at hl 1 rfl) ?_
  refine va_get (D := E.1) (ci := 0) (v := .int (g0_moment h0)) (C := RX0) (T := TX0) (N := 10) hx hb hts inX0 hown hE.2.1 hP 8 rfl rfl 1 (by decide) (hE.w tw_28) (fun _ h9 => h9) rfl dX0_become_10 ?_
  obtain ⟨t_2, et_2, hf⟩ := jn1_some hf
  refine va_put (D := E.1) (ci := 0) (v := .int (g0_moment h0)) (ty := .int) (C := RX0) (T := TX0) (N := 10) hx hb hts inX0 tyX0 tyX0_ok nmX0 hown hE.2.1 hP hD hS 16 rfl rfl 1 (by decide) (hE.w tw_28) (fun _ h9 => h9) rfl (by decide +kernel) rfl rfl (Nat.le_of_ble_eq_true rfl) dX0_become_13 (fun H locs hP hD hS => ?_)
  have hP : va_P E.1 vwCl (wX0 E a k0 ++ (wX0 E b h0 ++ wX0 E d t_2)) H := wst (by rw [et_2]; exact rfl) hP
  have hD : va_D A (wX0 E a k0 ++ (wX0 E b h0 ++ wX0 E d t_2)) := wsd (by rw [et_2]; exact rfl) hD
  refine lv_aload_n hx hb dX0_become_16 rfl (lv_at hl 0 rfl) ?_
  refine lv_aload_n hx hb dX0_become_17 rfl (lv_at hl 1 rfl) ?_
  refine va_get (D := E.1) (ci := 0) (v := .int (g0_people h0)) (C := RX0) (T := TX0) (N := 10) hx hb hts inX0 hown hE.2.1 hP 8 rfl rfl 2 (by decide) (hE.w tw_30) (fun _ h9 => h9) rfl dX0_become_18 ?_
  obtain ⟨t_3, et_3, hf⟩ := jn1_some hf
  refine va_put (D := E.1) (ci := 0) (v := .int (g0_people h0)) (ty := .int) (C := RX0) (T := TX0) (N := 10) hx hb hts inX0 tyX0 tyX0_ok nmX0 hown hE.2.1 hP hD hS 16 rfl rfl 2 (by decide) (hE.w tw_30) (fun _ h9 => h9) rfl (by decide +kernel) rfl rfl (Nat.le_of_ble_eq_true rfl) dX0_become_21 (fun H locs hP hD hS => ?_)
  have hP : va_P E.1 vwCl (wX0 E a k0 ++ (wX0 E b h0 ++ wX0 E d t_3)) H := wst (by rw [et_3]; exact rfl) hP
  have hD : va_D A (wX0 E a k0 ++ (wX0 E b h0 ++ wX0 E d t_3)) := wsd (by rw [et_3]; exact rfl) hD
  refine lv_aload_n hx hb dX0_become_24 rfl (lv_at hl 1 rfl) ?_
  refine va_get (D := E.1) (ci := 0) (v := .ref (b 4)) (C := RX0) (T := TX0) (N := 10) hx hb hts inX0 hown hE.2.1 hP 8 rfl rfl 3 (by decide) (hE.w tw_33) (fun _ h9 => h9) rfl dX0_become_25 ?_
  refine lv_iconst (v := (0 : Int32)) hx hb dX0_become_28 (by decide) ?_
  refine lv_aload_n hx hb dX0_become_29 rfl (lv_at hl 0 rfl) ?_
  refine va_get (D := E.1) (ci := 0) (v := .ref (d 4)) (C := RX0) (T := TX0) (N := 10) hx hb hts inX0 hown hE.2.1 hP 16 rfl rfl 3 (by decide) (hE.w tw_33) (fun _ h9 => h9) rfl dX0_become_30 ?_
  refine lv_iconst (v := (0 : Int32)) hx hb dX0_become_33 (by decide) ?_
  refine lv_bipush (v := (16 : Int32)) hx hb dX0_become_34 (by decide) ?_
  obtain ⟨⟨hg4a, hg4b, hg4c, hg4d, hg4e⟩, hf⟩ := gc_some hf
  obtain ⟨t_5, et_5, hf⟩ := jn1_some hf
  refine va_copyi (ty := .int) hx hb (hml.trans hl.1.symm) hown (hE.w tw_298) (hE.w tw_300) (hE.w tw_299) (hE.w tw_7) hE.2.1 hP hD hS 9 17 0 0 rfl rfl rfl rfl rfl hg4a hg4b hg4c hg4d hg4e (fun _ _ => rfl) (Nat.le_of_ble_eq_true rfl) (by decide +kernel) dX0_become_36 (fun H locs hP hD hS => ?_)
  have hP : va_P E.1 vwCl (wX0 E a k0 ++ (wX0 E b h0 ++ wX0 E d t_5)) H := wst (by rw [et_5]; exact rfl) hP
  have hD : va_D A (wX0 E a k0 ++ (wX0 E b h0 ++ wX0 E d t_5)) := wsd (by rw [et_5]; exact rfl) hD
  refine lv_aload_n hx hb dX0_become_39 rfl (lv_at hl 1 rfl) ?_
  refine va_get (D := E.1) (ci := 0) (v := .ref (b 5)) (C := RX0) (T := TX0) (N := 10) hx hb hts inX0 hown hE.2.1 hP 8 rfl rfl 4 (by decide) (hE.w tw_36) (fun _ h9 => h9) rfl dX0_become_40 ?_
  refine lv_iconst (v := (0 : Int32)) hx hb dX0_become_43 (by decide) ?_
  refine lv_aload_n hx hb dX0_become_44 rfl (lv_at hl 0 rfl) ?_
  refine va_get (D := E.1) (ci := 0) (v := .ref (d 5)) (C := RX0) (T := TX0) (N := 10) hx hb hts inX0 hown hE.2.1 hP 16 rfl rfl 4 (by decide) (hE.w tw_36) (fun _ h9 => h9) rfl dX0_become_45 ?_
  refine lv_iconst (v := (0 : Int32)) hx hb dX0_become_48 (by decide) ?_
  refine lv_bipush (v := (16 : Int32)) hx hb dX0_become_49 (by decide) ?_
  obtain ⟨⟨hg6a, hg6b, hg6c, hg6d, hg6e⟩, hf⟩ := gc_some hf
  obtain ⟨t_7, et_7, hf⟩ := jn1_some hf
  refine va_copyi (ty := .int) hx hb (hml.trans hl.1.symm) hown (hE.w tw_298) (hE.w tw_300) (hE.w tw_299) (hE.w tw_7) hE.2.1 hP hD hS 10 18 0 0 rfl rfl rfl rfl rfl hg6a hg6b hg6c hg6d hg6e (fun _ _ => rfl) (Nat.le_of_ble_eq_true rfl) (by decide +kernel) dX0_become_51 (fun H locs hP hD hS => ?_)
  have hP : va_P E.1 vwCl (wX0 E a k0 ++ (wX0 E b h0 ++ wX0 E d t_7)) H := wst (by rw [et_7]; exact rfl) hP
  have hD : va_D A (wX0 E a k0 ++ (wX0 E b h0 ++ wX0 E d t_7)) := wsd (by rw [et_7]; exact rfl) hD
  refine lv_aload_n hx hb dX0_become_54 rfl (lv_at hl 1 rfl) ?_
  refine va_get (D := E.1) (ci := 0) (v := .ref (b 6)) (C := RX0) (T := TX0) (N := 10) hx hb hts inX0 hown hE.2.1 hP 8 rfl rfl 5 (by decide) (hE.w tw_39) (fun _ h9 => h9) rfl dX0_become_55 ?_
  refine lv_iconst (v := (0 : Int32)) hx hb dX0_become_58 (by decide) ?_
  refine lv_aload_n hx hb dX0_become_59 rfl (lv_at hl 0 rfl) ?_
  refine va_get (D := E.1) (ci := 0) (v := .ref (d 6)) (C := RX0) (T := TX0) (N := 10) hx hb hts inX0 hown hE.2.1 hP 16 rfl rfl 5 (by decide) (hE.w tw_39) (fun _ h9 => h9) rfl dX0_become_60 ?_
  refine lv_iconst (v := (0 : Int32)) hx hb dX0_become_63 (by decide) ?_
  refine lv_aload_n hx hb dX0_become_64 rfl (lv_at hl 0 rfl) ?_
  refine va_get (D := E.1) (ci := 0) (v := .int (g0_people t_7)) (C := RX0) (T := TX0) (N := 10) hx hb hts inX0 hown hE.2.1 hP 16 rfl rfl 2 (by decide) (hE.w tw_30) (fun _ h9 => h9) rfl dX0_become_65 ?_
  obtain ⟨⟨hg8a, hg8b, hg8c, hg8d, hg8e⟩, hf⟩ := gc_some hf
  obtain ⟨t_9, et_9, hf⟩ := jn1_some hf
  refine va_copyi (ty := .int) hx hb (hml.trans hl.1.symm) hown (hE.w tw_298) (hE.w tw_300) (hE.w tw_299) (hE.w tw_7) hE.2.1 hP hD hS 11 19 0 0 rfl rfl rfl rfl rfl hg8a hg8b hg8c hg8d hg8e (fun _ _ => rfl) (Nat.le_of_ble_eq_true rfl) (by decide +kernel) dX0_become_68 (fun H locs hP hD hS => ?_)
  have hP : va_P E.1 vwCl (wX0 E a k0 ++ (wX0 E b h0 ++ wX0 E d t_9)) H := wst (by rw [et_9]; exact rfl) hP
  have hD : va_D A (wX0 E a k0 ++ (wX0 E b h0 ++ wX0 E d t_9)) := wsd (by rw [et_9]; exact rfl) hD
  refine lv_aload_n hx hb dX0_become_71 rfl (lv_at hl 1 rfl) ?_
  refine va_get (D := E.1) (ci := 0) (v := .ref (b 7)) (C := RX0) (T := TX0) (N := 10) hx hb hts inX0 hown hE.2.1 hP 8 rfl rfl 6 (by decide) (hE.w tw_41) (fun _ h9 => h9) rfl dX0_become_72 ?_
  refine lv_iconst (v := (0 : Int32)) hx hb dX0_become_75 (by decide) ?_
  refine lv_aload_n hx hb dX0_become_76 rfl (lv_at hl 0 rfl) ?_
  refine va_get (D := E.1) (ci := 0) (v := .ref (d 7)) (C := RX0) (T := TX0) (N := 10) hx hb hts inX0 hown hE.2.1 hP 16 rfl rfl 6 (by decide) (hE.w tw_41) (fun _ h9 => h9) rfl dX0_become_77 ?_
  refine lv_iconst (v := (0 : Int32)) hx hb dX0_become_80 (by decide) ?_
  refine lv_aload_n hx hb dX0_become_81 rfl (lv_at hl 0 rfl) ?_
  refine va_get (D := E.1) (ci := 0) (v := .int (g0_people t_9)) (C := RX0) (T := TX0) (N := 10) hx hb hts inX0 hown hE.2.1 hP 16 rfl rfl 2 (by decide) (hE.w tw_30) (fun _ h9 => h9) rfl dX0_become_82 ?_
  obtain ⟨⟨hg10a, hg10b, hg10c, hg10d, hg10e⟩, hf⟩ := gc_some hf
  obtain ⟨t_11, et_11, hf⟩ := jn1_some hf
  refine va_copyi (ty := .int) hx hb (hml.trans hl.1.symm) hown (hE.w tw_298) (hE.w tw_300) (hE.w tw_299) (hE.w tw_7) hE.2.1 hP hD hS 12 20 0 0 rfl rfl rfl rfl rfl hg10a hg10b hg10c hg10d hg10e (fun _ _ => rfl) (Nat.le_of_ble_eq_true rfl) (by decide +kernel) dX0_become_85 (fun H locs hP hD hS => ?_)
  have hP : va_P E.1 vwCl (wX0 E a k0 ++ (wX0 E b h0 ++ wX0 E d t_11)) H := wst (by rw [et_11]; exact rfl) hP
  have hD : va_D A (wX0 E a k0 ++ (wX0 E b h0 ++ wX0 E d t_11)) := wsd (by rw [et_11]; exact rfl) hD
  refine lv_aload_n hx hb dX0_become_88 rfl (lv_at hl 1 rfl) ?_
  refine va_get (D := E.1) (ci := 0) (v := .ref (b 8)) (C := RX0) (T := TX0) (N := 10) hx hb hts inX0 hown hE.2.1 hP 8 rfl rfl 7 (by decide) (hE.w tw_44) (fun _ h9 => h9) rfl dX0_become_89 ?_
  refine lv_iconst (v := (0 : Int32)) hx hb dX0_become_92 (by decide) ?_
  refine lv_aload_n hx hb dX0_become_93 rfl (lv_at hl 0 rfl) ?_
  refine va_get (D := E.1) (ci := 0) (v := .ref (d 8)) (C := RX0) (T := TX0) (N := 10) hx hb hts inX0 hown hE.2.1 hP 16 rfl rfl 7 (by decide) (hE.w tw_44) (fun _ h9 => h9) rfl dX0_become_94 ?_
  refine lv_iconst (v := (0 : Int32)) hx hb dX0_become_97 (by decide) ?_
  refine lv_aload_n hx hb dX0_become_98 rfl (lv_at hl 0 rfl) ?_
  refine va_get (D := E.1) (ci := 0) (v := .int (g0_people t_11)) (C := RX0) (T := TX0) (N := 10) hx hb hts inX0 hown hE.2.1 hP 16 rfl rfl 2 (by decide) (hE.w tw_30) (fun _ h9 => h9) rfl dX0_become_99 ?_
  obtain ⟨⟨hg12a, hg12b, hg12c, hg12d, hg12e⟩, hf⟩ := gc_some hf
  obtain ⟨t_13, et_13, hf⟩ := jn1_some hf
  refine va_copyi (ty := .int) hx hb (hml.trans hl.1.symm) hown (hE.w tw_298) (hE.w tw_300) (hE.w tw_299) (hE.w tw_7) hE.2.1 hP hD hS 13 21 0 0 rfl rfl rfl rfl rfl hg12a hg12b hg12c hg12d hg12e (fun _ _ => rfl) (Nat.le_of_ble_eq_true rfl) (by decide +kernel) dX0_become_102 (fun H locs hP hD hS => ?_)
  have hP : va_P E.1 vwCl (wX0 E a k0 ++ (wX0 E b h0 ++ wX0 E d t_13)) H := wst (by rw [et_13]; exact rfl) hP
  have hD : va_D A (wX0 E a k0 ++ (wX0 E b h0 ++ wX0 E d t_13)) := wsd (by rw [et_13]; exact rfl) hD
  refine lv_aload_n hx hb dX0_become_105 rfl (lv_at hl 1 rfl) ?_
  refine va_get (D := E.1) (ci := 0) (v := .ref (b 9)) (C := RX0) (T := TX0) (N := 10) hx hb hts inX0 hown hE.2.1 hP 8 rfl rfl 8 (by decide) (hE.w tw_46) (fun _ h9 => h9) rfl dX0_become_106 ?_
  refine lv_iconst (v := (0 : Int32)) hx hb dX0_become_109 (by decide) ?_
  refine lv_aload_n hx hb dX0_become_110 rfl (lv_at hl 0 rfl) ?_
  refine va_get (D := E.1) (ci := 0) (v := .ref (d 9)) (C := RX0) (T := TX0) (N := 10) hx hb hts inX0 hown hE.2.1 hP 16 rfl rfl 8 (by decide) (hE.w tw_46) (fun _ h9 => h9) rfl dX0_become_111 ?_
  refine lv_iconst (v := (0 : Int32)) hx hb dX0_become_114 (by decide) ?_
  refine lv_aload_n hx hb dX0_become_115 rfl (lv_at hl 0 rfl) ?_
  refine va_get (D := E.1) (ci := 0) (v := .int (g0_people t_13)) (C := RX0) (T := TX0) (N := 10) hx hb hts inX0 hown hE.2.1 hP 16 rfl rfl 2 (by decide) (hE.w tw_30) (fun _ h9 => h9) rfl dX0_become_116 ?_
  obtain ⟨⟨hg14a, hg14b, hg14c, hg14d, hg14e⟩, hf⟩ := gc_some hf
  obtain ⟨t_15, et_15, hf⟩ := jn1_some hf
  refine va_copyi (ty := .int) hx hb (hml.trans hl.1.symm) hown (hE.w tw_298) (hE.w tw_300) (hE.w tw_299) (hE.w tw_7) hE.2.1 hP hD hS 14 22 0 0 rfl rfl rfl rfl rfl hg14a hg14b hg14c hg14d hg14e (fun _ _ => rfl) (Nat.le_of_ble_eq_true rfl) (by decide +kernel) dX0_become_119 (fun H locs hP hD hS => ?_)
  have hP : va_P E.1 vwCl (wX0 E a k0 ++ (wX0 E b h0 ++ wX0 E d t_15)) H := wst (by rw [et_15]; exact rfl) hP
  have hD : va_D A (wX0 E a k0 ++ (wX0 E b h0 ++ wX0 E d t_15)) := wsd (by rw [et_15]; exact rfl) hD
  obtain rfl := so1 hf
  exact rt_v hx hb hr hlocks hP hD hS dX0_become_122
def f_X0_become_ht (k0 : HS) (h0 : HS) (t0 : HS) : Option (HS) := jn1 (s0_night h0 (g0_night t0)) (fun h_1 => jn1 (s0_moment h_1 (g0_moment t0)) (fun h_2 => jn1 (s0_people h_2 (g0_people t0)) (fun h_3 => gc (0 : Int32) (0 : Int32) (16 : Int32) 16 16 (jn1 (s0_cues h_3 (va_cpy (g0_cues t0) (g0_cues h_3) (0 : Int32).toNatClampNeg (0 : Int32).toNatClampNeg (16 : Int32).toNatClampNeg)) (fun h_5 => gc (0 : Int32) (0 : Int32) (16 : Int32) 16 16 (jn1 (s0_tenses h_5 (va_cpy (g0_tenses t0) (g0_tenses h_5) (0 : Int32).toNatClampNeg (0 : Int32).toNatClampNeg (16 : Int32).toNatClampNeg)) (fun h_7 => gc (0 : Int32) (0 : Int32) (g0_people h_7) 8 8 (jn1 (s0_kinds h_7 (va_cpy (g0_kinds t0) (g0_kinds h_7) (0 : Int32).toNatClampNeg (0 : Int32).toNatClampNeg (g0_people h_7).toNatClampNeg)) (fun h_9 => gc (0 : Int32) (0 : Int32) (g0_people h_9) 8 8 (jn1 (s0_freshes h_9 (va_cpy (g0_freshes t0) (g0_freshes h_9) (0 : Int32).toNatClampNeg (0 : Int32).toNatClampNeg (g0_people h_9).toNatClampNeg)) (fun h_11 => gc (0 : Int32) (0 : Int32) (g0_people h_11) 8 8 (jn1 (s0_notes h_11 (va_cpy (g0_notes t0) (g0_notes h_11) (0 : Int32).toNatClampNeg (0 : Int32).toNatClampNeg (g0_people h_11).toNatClampNeg)) (fun h_13 => gc (0 : Int32) (0 : Int32) (g0_people h_13) 8 8 (jn1 (s0_dids h_13 (va_cpy (g0_dids t0) (g0_dids h_13) (0 : Int32).toNatClampNeg (0 : Int32).toNatClampNeg (g0_people h_13).toNatClampNeg)) (fun h_15 => some (h_15))))))))))))))))
set_option maxHeartbeats 4000000 in
set_option maxRecDepth 100000 in
theorem c_X0_become_ht (l : Launch) (E : EV) (a : Nat → Nat) (b : Nat → Nat) (d : Nat → Nat) (k0 : HS) (h0 : HS) (t0 : HS)  (h0' : HS) (hf : f_X0_become_ht k0 h0 t0 = some h0') : Ct l E yX0_become cX0_become 2 (none) (rmk 1 40) [.ref (b 0), .ref (d 0)] (wX0 E a k0 ++ (wX0 E b h0 ++ wX0 E d t0)) (wX0 E a k0 ++ (wX0 E b h0' ++ wX0 E d t0)) none := by
  refine Ct.of (by decide) (Nat.le_of_ble_eq_true rfl) ?_
  intro p e s m below meth c A ls hC hP hD hl
  obtain ⟨hx, hb, hr, hml, hown, hlocks, hE, hA⟩ := hC
  have hts : ∀ w ∈ tbl, w.before [.ref (b 0), .ref (d 0)].toArray s = true := fun w hw => hE.w hw
  have hS : va_S A s.heap s.heap [] := va_S.rf
  have hl : lv_has ls 2 [(0, .ref (b 0)), (1, .ref (d 0))] := hl
  unfold f_X0_become_ht at hf
  refine lv_aload_n hx hb dX0_become_0 rfl (lv_at hl 0 rfl) ?_
  refine lv_aload_n hx hb dX0_become_1 rfl (lv_at hl 1 rfl) ?_
  refine va_get (D := E.1) (ci := 0) (v := .int (g0_night t0)) (C := RX0) (T := TX0) (N := 10) hx hb hts inX0 hown hE.2.1 hP 16 rfl rfl 0 (by decide) (hE.w tw_26) (fun _ h9 => h9) rfl dX0_become_2 ?_
  obtain ⟨h_1, eh_1, hf⟩ := jn1_some hf
  refine va_put (D := E.1) (ci := 0) (v := .int (g0_night t0)) (ty := .int) (C := RX0) (T := TX0) (N := 10) hx hb hts inX0 tyX0 tyX0_ok nmX0 hown hE.2.1 hP hD hS 8 rfl rfl 0 (by decide) (hE.w tw_26) (fun _ h9 => h9) rfl (by decide +kernel) rfl rfl (Nat.le_of_ble_eq_true rfl) dX0_become_5 (fun H locs hP hD hS => ?_)
  have hP : va_P E.1 vwCl (wX0 E a k0 ++ (wX0 E b h_1 ++ wX0 E d t0)) H := wst (by rw [eh_1]; exact rfl) hP
  have hD : va_D A (wX0 E a k0 ++ (wX0 E b h_1 ++ wX0 E d t0)) := wsd (by rw [eh_1]; exact rfl) hD
  refine lv_aload_n hx hb dX0_become_8 rfl (lv_at hl 0 rfl) ?_
  refine lv_aload_n hx hb dX0_become_9 rfl (lv_at hl 1 rfl) ?_
  refine va_get (D := E.1) (ci := 0) (v := .int (g0_moment t0)) (C := RX0) (T := TX0) (N := 10) hx hb hts inX0 hown hE.2.1 hP 16 rfl rfl 1 (by decide) (hE.w tw_28) (fun _ h9 => h9) rfl dX0_become_10 ?_
  obtain ⟨h_2, eh_2, hf⟩ := jn1_some hf
  refine va_put (D := E.1) (ci := 0) (v := .int (g0_moment t0)) (ty := .int) (C := RX0) (T := TX0) (N := 10) hx hb hts inX0 tyX0 tyX0_ok nmX0 hown hE.2.1 hP hD hS 8 rfl rfl 1 (by decide) (hE.w tw_28) (fun _ h9 => h9) rfl (by decide +kernel) rfl rfl (Nat.le_of_ble_eq_true rfl) dX0_become_13 (fun H locs hP hD hS => ?_)
  have hP : va_P E.1 vwCl (wX0 E a k0 ++ (wX0 E b h_2 ++ wX0 E d t0)) H := wst (by rw [eh_2]; exact rfl) hP
  have hD : va_D A (wX0 E a k0 ++ (wX0 E b h_2 ++ wX0 E d t0)) := wsd (by rw [eh_2]; exact rfl) hD
  refine lv_aload_n hx hb dX0_become_16 rfl (lv_at hl 0 rfl) ?_
  refine lv_aload_n hx hb dX0_become_17 rfl (lv_at hl 1 rfl) ?_
  refine va_get (D := E.1) (ci := 0) (v := .int (g0_people t0)) (C := RX0) (T := TX0) (N := 10) hx hb hts inX0 hown hE.2.1 hP 16 rfl rfl 2 (by decide) (hE.w tw_30) (fun _ h9 => h9) rfl dX0_become_18 ?_
  obtain ⟨h_3, eh_3, hf⟩ := jn1_some hf
  refine va_put (D := E.1) (ci := 0) (v := .int (g0_people t0)) (ty := .int) (C := RX0) (T := TX0) (N := 10) hx hb hts inX0 tyX0 tyX0_ok nmX0 hown hE.2.1 hP hD hS 8 rfl rfl 2 (by decide) (hE.w tw_30) (fun _ h9 => h9) rfl (by decide +kernel) rfl rfl (Nat.le_of_ble_eq_true rfl) dX0_become_21 (fun H locs hP hD hS => ?_)
  have hP : va_P E.1 vwCl (wX0 E a k0 ++ (wX0 E b h_3 ++ wX0 E d t0)) H := wst (by rw [eh_3]; exact rfl) hP
  have hD : va_D A (wX0 E a k0 ++ (wX0 E b h_3 ++ wX0 E d t0)) := wsd (by rw [eh_3]; exact rfl) hD
  refine lv_aload_n hx hb dX0_become_24 rfl (lv_at hl 1 rfl) ?_
  refine va_get (D := E.1) (ci := 0) (v := .ref (d 4)) (C := RX0) (T := TX0) (N := 10) hx hb hts inX0 hown hE.2.1 hP 16 rfl rfl 3 (by decide) (hE.w tw_33) (fun _ h9 => h9) rfl dX0_become_25 ?_
  refine lv_iconst (v := (0 : Int32)) hx hb dX0_become_28 (by decide) ?_
  refine lv_aload_n hx hb dX0_become_29 rfl (lv_at hl 0 rfl) ?_
  refine va_get (D := E.1) (ci := 0) (v := .ref (b 4)) (C := RX0) (T := TX0) (N := 10) hx hb hts inX0 hown hE.2.1 hP 8 rfl rfl 3 (by decide) (hE.w tw_33) (fun _ h9 => h9) rfl dX0_become_30 ?_
  refine lv_iconst (v := (0 : Int32)) hx hb dX0_become_33 (by decide) ?_
  refine lv_bipush (v := (16 : Int32)) hx hb dX0_become_34 (by decide) ?_
  obtain ⟨⟨hg4a, hg4b, hg4c, hg4d, hg4e⟩, hf⟩ := gc_some hf
  obtain ⟨h_5, eh_5, hf⟩ := jn1_some hf
  refine va_copyi (ty := .int) hx hb (hml.trans hl.1.symm) hown (hE.w tw_298) (hE.w tw_300) (hE.w tw_299) (hE.w tw_7) hE.2.1 hP hD hS 17 9 0 0 rfl rfl rfl rfl rfl hg4a hg4b hg4c hg4d hg4e (fun _ _ => rfl) (Nat.le_of_ble_eq_true rfl) (by decide +kernel) dX0_become_36 (fun H locs hP hD hS => ?_)
  have hP : va_P E.1 vwCl (wX0 E a k0 ++ (wX0 E b h_5 ++ wX0 E d t0)) H := wst (by rw [eh_5]; exact rfl) hP
  have hD : va_D A (wX0 E a k0 ++ (wX0 E b h_5 ++ wX0 E d t0)) := wsd (by rw [eh_5]; exact rfl) hD
  refine lv_aload_n hx hb dX0_become_39 rfl (lv_at hl 1 rfl) ?_
  refine va_get (D := E.1) (ci := 0) (v := .ref (d 5)) (C := RX0) (T := TX0) (N := 10) hx hb hts inX0 hown hE.2.1 hP 16 rfl rfl 4 (by decide) (hE.w tw_36) (fun _ h9 => h9) rfl dX0_become_40 ?_
  refine lv_iconst (v := (0 : Int32)) hx hb dX0_become_43 (by decide) ?_
  refine lv_aload_n hx hb dX0_become_44 rfl (lv_at hl 0 rfl) ?_
  refine va_get (D := E.1) (ci := 0) (v := .ref (b 5)) (C := RX0) (T := TX0) (N := 10) hx hb hts inX0 hown hE.2.1 hP 8 rfl rfl 4 (by decide) (hE.w tw_36) (fun _ h9 => h9) rfl dX0_become_45 ?_
  refine lv_iconst (v := (0 : Int32)) hx hb dX0_become_48 (by decide) ?_
  refine lv_bipush (v := (16 : Int32)) hx hb dX0_become_49 (by decide) ?_
  obtain ⟨⟨hg6a, hg6b, hg6c, hg6d, hg6e⟩, hf⟩ := gc_some hf
  obtain ⟨h_7, eh_7, hf⟩ := jn1_some hf
  refine va_copyi (ty := .int) hx hb (hml.trans hl.1.symm) hown (hE.w tw_298) (hE.w tw_300) (hE.w tw_299) (hE.w tw_7) hE.2.1 hP hD hS 18 10 0 0 rfl rfl rfl rfl rfl hg6a hg6b hg6c hg6d hg6e (fun _ _ => rfl) (Nat.le_of_ble_eq_true rfl) (by decide +kernel) dX0_become_51 (fun H locs hP hD hS => ?_)
  have hP : va_P E.1 vwCl (wX0 E a k0 ++ (wX0 E b h_7 ++ wX0 E d t0)) H := wst (by rw [eh_7]; exact rfl) hP
  have hD : va_D A (wX0 E a k0 ++ (wX0 E b h_7 ++ wX0 E d t0)) := wsd (by rw [eh_7]; exact rfl) hD
  refine lv_aload_n hx hb dX0_become_54 rfl (lv_at hl 1 rfl) ?_
  refine va_get (D := E.1) (ci := 0) (v := .ref (d 6)) (C := RX0) (T := TX0) (N := 10) hx hb hts inX0 hown hE.2.1 hP 16 rfl rfl 5 (by decide) (hE.w tw_39) (fun _ h9 => h9) rfl dX0_become_55 ?_
  refine lv_iconst (v := (0 : Int32)) hx hb dX0_become_58 (by decide) ?_
  refine lv_aload_n hx hb dX0_become_59 rfl (lv_at hl 0 rfl) ?_
  refine va_get (D := E.1) (ci := 0) (v := .ref (b 6)) (C := RX0) (T := TX0) (N := 10) hx hb hts inX0 hown hE.2.1 hP 8 rfl rfl 5 (by decide) (hE.w tw_39) (fun _ h9 => h9) rfl dX0_become_60 ?_
  refine lv_iconst (v := (0 : Int32)) hx hb dX0_become_63 (by decide) ?_
  refine lv_aload_n hx hb dX0_become_64 rfl (lv_at hl 0 rfl) ?_
  refine va_get (D := E.1) (ci := 0) (v := .int (g0_people h_7)) (C := RX0) (T := TX0) (N := 10) hx hb hts inX0 hown hE.2.1 hP 8 rfl rfl 2 (by decide) (hE.w tw_30) (fun _ h9 => h9) rfl dX0_become_65 ?_
  obtain ⟨⟨hg8a, hg8b, hg8c, hg8d, hg8e⟩, hf⟩ := gc_some hf
  obtain ⟨h_9, eh_9, hf⟩ := jn1_some hf
  refine va_copyi (ty := .int) hx hb (hml.trans hl.1.symm) hown (hE.w tw_298) (hE.w tw_300) (hE.w tw_299) (hE.w tw_7) hE.2.1 hP hD hS 19 11 0 0 rfl rfl rfl rfl rfl hg8a hg8b hg8c hg8d hg8e (fun _ _ => rfl) (Nat.le_of_ble_eq_true rfl) (by decide +kernel) dX0_become_68 (fun H locs hP hD hS => ?_)
  have hP : va_P E.1 vwCl (wX0 E a k0 ++ (wX0 E b h_9 ++ wX0 E d t0)) H := wst (by rw [eh_9]; exact rfl) hP
  have hD : va_D A (wX0 E a k0 ++ (wX0 E b h_9 ++ wX0 E d t0)) := wsd (by rw [eh_9]; exact rfl) hD
  refine lv_aload_n hx hb dX0_become_71 rfl (lv_at hl 1 rfl) ?_
  refine va_get (D := E.1) (ci := 0) (v := .ref (d 7)) (C := RX0) (T := TX0) (N := 10) hx hb hts inX0 hown hE.2.1 hP 16 rfl rfl 6 (by decide) (hE.w tw_41) (fun _ h9 => h9) rfl dX0_become_72 ?_
  refine lv_iconst (v := (0 : Int32)) hx hb dX0_become_75 (by decide) ?_
  refine lv_aload_n hx hb dX0_become_76 rfl (lv_at hl 0 rfl) ?_
  refine va_get (D := E.1) (ci := 0) (v := .ref (b 7)) (C := RX0) (T := TX0) (N := 10) hx hb hts inX0 hown hE.2.1 hP 8 rfl rfl 6 (by decide) (hE.w tw_41) (fun _ h9 => h9) rfl dX0_become_77 ?_
  refine lv_iconst (v := (0 : Int32)) hx hb dX0_become_80 (by decide) ?_
  refine lv_aload_n hx hb dX0_become_81 rfl (lv_at hl 0 rfl) ?_
  refine va_get (D := E.1) (ci := 0) (v := .int (g0_people h_9)) (C := RX0) (T := TX0) (N := 10) hx hb hts inX0 hown hE.2.1 hP 8 rfl rfl 2 (by decide) (hE.w tw_30) (fun _ h9 => h9) rfl dX0_become_82 ?_
  obtain ⟨⟨hg10a, hg10b, hg10c, hg10d, hg10e⟩, hf⟩ := gc_some hf
  obtain ⟨h_11, eh_11, hf⟩ := jn1_some hf
  refine va_copyi (ty := .int) hx hb (hml.trans hl.1.symm) hown (hE.w tw_298) (hE.w tw_300) (hE.w tw_299) (hE.w tw_7) hE.2.1 hP hD hS 20 12 0 0 rfl rfl rfl rfl rfl hg10a hg10b hg10c hg10d hg10e (fun _ _ => rfl) (Nat.le_of_ble_eq_true rfl) (by decide +kernel) dX0_become_85 (fun H locs hP hD hS => ?_)
  have hP : va_P E.1 vwCl (wX0 E a k0 ++ (wX0 E b h_11 ++ wX0 E d t0)) H := wst (by rw [eh_11]; exact rfl) hP
  have hD : va_D A (wX0 E a k0 ++ (wX0 E b h_11 ++ wX0 E d t0)) := wsd (by rw [eh_11]; exact rfl) hD
  refine lv_aload_n hx hb dX0_become_88 rfl (lv_at hl 1 rfl) ?_
  refine va_get (D := E.1) (ci := 0) (v := .ref (d 8)) (C := RX0) (T := TX0) (N := 10) hx hb hts inX0 hown hE.2.1 hP 16 rfl rfl 7 (by decide) (hE.w tw_44) (fun _ h9 => h9) rfl dX0_become_89 ?_
  refine lv_iconst (v := (0 : Int32)) hx hb dX0_become_92 (by decide) ?_
  refine lv_aload_n hx hb dX0_become_93 rfl (lv_at hl 0 rfl) ?_
  refine va_get (D := E.1) (ci := 0) (v := .ref (b 8)) (C := RX0) (T := TX0) (N := 10) hx hb hts inX0 hown hE.2.1 hP 8 rfl rfl 7 (by decide) (hE.w tw_44) (fun _ h9 => h9) rfl dX0_become_94 ?_
  refine lv_iconst (v := (0 : Int32)) hx hb dX0_become_97 (by decide) ?_
  refine lv_aload_n hx hb dX0_become_98 rfl (lv_at hl 0 rfl) ?_
  refine va_get (D := E.1) (ci := 0) (v := .int (g0_people h_11)) (C := RX0) (T := TX0) (N := 10) hx hb hts inX0 hown hE.2.1 hP 8 rfl rfl 2 (by decide) (hE.w tw_30) (fun _ h9 => h9) rfl dX0_become_99 ?_
  obtain ⟨⟨hg12a, hg12b, hg12c, hg12d, hg12e⟩, hf⟩ := gc_some hf
  obtain ⟨h_13, eh_13, hf⟩ := jn1_some hf
  refine va_copyi (ty := .int) hx hb (hml.trans hl.1.symm) hown (hE.w tw_298) (hE.w tw_300) (hE.w tw_299) (hE.w tw_7) hE.2.1 hP hD hS 21 13 0 0 rfl rfl rfl rfl rfl hg12a hg12b hg12c hg12d hg12e (fun _ _ => rfl) (Nat.le_of_ble_eq_true rfl) (by decide +kernel) dX0_become_102 (fun H locs hP hD hS => ?_)
  have hP : va_P E.1 vwCl (wX0 E a k0 ++ (wX0 E b h_13 ++ wX0 E d t0)) H := wst (by rw [eh_13]; exact rfl) hP
  have hD : va_D A (wX0 E a k0 ++ (wX0 E b h_13 ++ wX0 E d t0)) := wsd (by rw [eh_13]; exact rfl) hD
  refine lv_aload_n hx hb dX0_become_105 rfl (lv_at hl 1 rfl) ?_
  refine va_get (D := E.1) (ci := 0) (v := .ref (d 9)) (C := RX0) (T := TX0) (N := 10) hx hb hts inX0 hown hE.2.1 hP 16 rfl rfl 8 (by decide) (hE.w tw_46) (fun _ h9 => h9) rfl dX0_become_106 ?_
  refine lv_iconst (v := (0 : Int32)) hx hb dX0_become_109 (by decide) ?_
  refine lv_aload_n hx hb dX0_become_110 rfl (lv_at hl 0 rfl) ?_
  refine va_get (D := E.1) (ci := 0) (v := .ref (b 9)) (C := RX0) (T := TX0) (N := 10) hx hb hts inX0 hown hE.2.1 hP 8 rfl rfl 8 (by decide) (hE.w tw_46) (fun _ h9 => h9) rfl dX0_become_111 ?_
  refine lv_iconst (v := (0 : Int32)) hx hb dX0_become_114 (by decide) ?_
  refine lv_aload_n hx hb dX0_become_115 rfl (lv_at hl 0 rfl) ?_
  refine va_get (D := E.1) (ci := 0) (v := .int (g0_people h_13)) (C := RX0) (T := TX0) (N := 10) hx hb hts inX0 hown hE.2.1 hP 8 rfl rfl 2 (by decide) (hE.w tw_30) (fun _ h9 => h9) rfl dX0_become_116 ?_
  obtain ⟨⟨hg14a, hg14b, hg14c, hg14d, hg14e⟩, hf⟩ := gc_some hf
  obtain ⟨h_15, eh_15, hf⟩ := jn1_some hf
  refine va_copyi (ty := .int) hx hb (hml.trans hl.1.symm) hown (hE.w tw_298) (hE.w tw_300) (hE.w tw_299) (hE.w tw_7) hE.2.1 hP hD hS 22 14 0 0 rfl rfl rfl rfl rfl hg14a hg14b hg14c hg14d hg14e (fun _ _ => rfl) (Nat.le_of_ble_eq_true rfl) (by decide +kernel) dX0_become_119 (fun H locs hP hD hS => ?_)
  have hP : va_P E.1 vwCl (wX0 E a k0 ++ (wX0 E b h_15 ++ wX0 E d t0)) H := wst (by rw [eh_15]; exact rfl) hP
  have hD : va_D A (wX0 E a k0 ++ (wX0 E b h_15 ++ wX0 E d t0)) := wsd (by rw [eh_15]; exact rfl) hD
  obtain rfl := so1 hf
  exact rt_v hx hb hr hlocks hP hD hS dX0_become_122
def f_X0_become_kh (k0 : HS) (h0 : HS) (t0 : HS) : Option (HS) := jn1 (s0_night k0 (g0_night h0)) (fun k_1 => jn1 (s0_moment k_1 (g0_moment h0)) (fun k_2 => jn1 (s0_people k_2 (g0_people h0)) (fun k_3 => gc (0 : Int32) (0 : Int32) (16 : Int32) 16 16 (jn1 (s0_cues k_3 (va_cpy (g0_cues h0) (g0_cues k_3) (0 : Int32).toNatClampNeg (0 : Int32).toNatClampNeg (16 : Int32).toNatClampNeg)) (fun k_5 => gc (0 : Int32) (0 : Int32) (16 : Int32) 16 16 (jn1 (s0_tenses k_5 (va_cpy (g0_tenses h0) (g0_tenses k_5) (0 : Int32).toNatClampNeg (0 : Int32).toNatClampNeg (16 : Int32).toNatClampNeg)) (fun k_7 => gc (0 : Int32) (0 : Int32) (g0_people k_7) 8 8 (jn1 (s0_kinds k_7 (va_cpy (g0_kinds h0) (g0_kinds k_7) (0 : Int32).toNatClampNeg (0 : Int32).toNatClampNeg (g0_people k_7).toNatClampNeg)) (fun k_9 => gc (0 : Int32) (0 : Int32) (g0_people k_9) 8 8 (jn1 (s0_freshes k_9 (va_cpy (g0_freshes h0) (g0_freshes k_9) (0 : Int32).toNatClampNeg (0 : Int32).toNatClampNeg (g0_people k_9).toNatClampNeg)) (fun k_11 => gc (0 : Int32) (0 : Int32) (g0_people k_11) 8 8 (jn1 (s0_notes k_11 (va_cpy (g0_notes h0) (g0_notes k_11) (0 : Int32).toNatClampNeg (0 : Int32).toNatClampNeg (g0_people k_11).toNatClampNeg)) (fun k_13 => gc (0 : Int32) (0 : Int32) (g0_people k_13) 8 8 (jn1 (s0_dids k_13 (va_cpy (g0_dids h0) (g0_dids k_13) (0 : Int32).toNatClampNeg (0 : Int32).toNatClampNeg (g0_people k_13).toNatClampNeg)) (fun k_15 => some (k_15))))))))))))))))
set_option maxHeartbeats 4000000 in
set_option maxRecDepth 100000 in
theorem c_X0_become_kh (l : Launch) (E : EV) (a : Nat → Nat) (b : Nat → Nat) (d : Nat → Nat) (k0 : HS) (h0 : HS) (t0 : HS)  (k0' : HS) (hf : f_X0_become_kh k0 h0 t0 = some k0') : Ct l E yX0_become cX0_become 2 (none) (rmk 1 40) [.ref (a 0), .ref (b 0)] (wX0 E a k0 ++ (wX0 E b h0 ++ wX0 E d t0)) (wX0 E a k0' ++ (wX0 E b h0 ++ wX0 E d t0)) none := by
  refine Ct.of (by decide) (Nat.le_of_ble_eq_true rfl) ?_
  intro p e s m below meth c A ls hC hP hD hl
  obtain ⟨hx, hb, hr, hml, hown, hlocks, hE, hA⟩ := hC
  have hts : ∀ w ∈ tbl, w.before [.ref (a 0), .ref (b 0)].toArray s = true := fun w hw => hE.w hw
  have hS : va_S A s.heap s.heap [] := va_S.rf
  have hl : lv_has ls 2 [(0, .ref (a 0)), (1, .ref (b 0))] := hl
  unfold f_X0_become_kh at hf
  refine lv_aload_n hx hb dX0_become_0 rfl (lv_at hl 0 rfl) ?_
  refine lv_aload_n hx hb dX0_become_1 rfl (lv_at hl 1 rfl) ?_
  refine va_get (D := E.1) (ci := 0) (v := .int (g0_night h0)) (C := RX0) (T := TX0) (N := 10) hx hb hts inX0 hown hE.2.1 hP 8 rfl rfl 0 (by decide) (hE.w tw_26) (fun _ h9 => h9) rfl dX0_become_2 ?_
  obtain ⟨k_1, ek_1, hf⟩ := jn1_some hf
  refine va_put (D := E.1) (ci := 0) (v := .int (g0_night h0)) (ty := .int) (C := RX0) (T := TX0) (N := 10) hx hb hts inX0 tyX0 tyX0_ok nmX0 hown hE.2.1 hP hD hS 0 rfl rfl 0 (by decide) (hE.w tw_26) (fun _ h9 => h9) rfl (by decide +kernel) rfl rfl (Nat.le_of_ble_eq_true rfl) dX0_become_5 (fun H locs hP hD hS => ?_)
  have hP : va_P E.1 vwCl (wX0 E a k_1 ++ (wX0 E b h0 ++ wX0 E d t0)) H := wst (by rw [ek_1]; exact rfl) hP
  have hD : va_D A (wX0 E a k_1 ++ (wX0 E b h0 ++ wX0 E d t0)) := wsd (by rw [ek_1]; exact rfl) hD
  refine lv_aload_n hx hb dX0_become_8 rfl (lv_at hl 0 rfl) ?_
  refine lv_aload_n hx hb dX0_become_9 rfl (lv_at hl 1 rfl) ?_
  refine va_get (D := E.1) (ci := 0) (v := .int (g0_moment h0)) (C := RX0) (T := TX0) (N := 10) hx hb hts inX0 hown hE.2.1 hP 8 rfl rfl 1 (by decide) (hE.w tw_28) (fun _ h9 => h9) rfl dX0_become_10 ?_
  obtain ⟨k_2, ek_2, hf⟩ := jn1_some hf
  refine va_put (D := E.1) (ci := 0) (v := .int (g0_moment h0)) (ty := .int) (C := RX0) (T := TX0) (N := 10) hx hb hts inX0 tyX0 tyX0_ok nmX0 hown hE.2.1 hP hD hS 0 rfl rfl 1 (by decide) (hE.w tw_28) (fun _ h9 => h9) rfl (by decide +kernel) rfl rfl (Nat.le_of_ble_eq_true rfl) dX0_become_13 (fun H locs hP hD hS => ?_)
  have hP : va_P E.1 vwCl (wX0 E a k_2 ++ (wX0 E b h0 ++ wX0 E d t0)) H := wst (by rw [ek_2]; exact rfl) hP
  have hD : va_D A (wX0 E a k_2 ++ (wX0 E b h0 ++ wX0 E d t0)) := wsd (by rw [ek_2]; exact rfl) hD
  refine lv_aload_n hx hb dX0_become_16 rfl (lv_at hl 0 rfl) ?_
  refine lv_aload_n hx hb dX0_become_17 rfl (lv_at hl 1 rfl) ?_
  refine va_get (D := E.1) (ci := 0) (v := .int (g0_people h0)) (C := RX0) (T := TX0) (N := 10) hx hb hts inX0 hown hE.2.1 hP 8 rfl rfl 2 (by decide) (hE.w tw_30) (fun _ h9 => h9) rfl dX0_become_18 ?_
  obtain ⟨k_3, ek_3, hf⟩ := jn1_some hf
  refine va_put (D := E.1) (ci := 0) (v := .int (g0_people h0)) (ty := .int) (C := RX0) (T := TX0) (N := 10) hx hb hts inX0 tyX0 tyX0_ok nmX0 hown hE.2.1 hP hD hS 0 rfl rfl 2 (by decide) (hE.w tw_30) (fun _ h9 => h9) rfl (by decide +kernel) rfl rfl (Nat.le_of_ble_eq_true rfl) dX0_become_21 (fun H locs hP hD hS => ?_)
  have hP : va_P E.1 vwCl (wX0 E a k_3 ++ (wX0 E b h0 ++ wX0 E d t0)) H := wst (by rw [ek_3]; exact rfl) hP
  have hD : va_D A (wX0 E a k_3 ++ (wX0 E b h0 ++ wX0 E d t0)) := wsd (by rw [ek_3]; exact rfl) hD
  refine lv_aload_n hx hb dX0_become_24 rfl (lv_at hl 1 rfl) ?_
  refine va_get (D := E.1) (ci := 0) (v := .ref (b 4)) (C := RX0) (T := TX0) (N := 10) hx hb hts inX0 hown hE.2.1 hP 8 rfl rfl 3 (by decide) (hE.w tw_33) (fun _ h9 => h9) rfl dX0_become_25 ?_
  refine lv_iconst (v := (0 : Int32)) hx hb dX0_become_28 (by decide) ?_
  refine lv_aload_n hx hb dX0_become_29 rfl (lv_at hl 0 rfl) ?_
  refine va_get (D := E.1) (ci := 0) (v := .ref (a 4)) (C := RX0) (T := TX0) (N := 10) hx hb hts inX0 hown hE.2.1 hP 0 rfl rfl 3 (by decide) (hE.w tw_33) (fun _ h9 => h9) rfl dX0_become_30 ?_
  refine lv_iconst (v := (0 : Int32)) hx hb dX0_become_33 (by decide) ?_
  refine lv_bipush (v := (16 : Int32)) hx hb dX0_become_34 (by decide) ?_
  obtain ⟨⟨hg4a, hg4b, hg4c, hg4d, hg4e⟩, hf⟩ := gc_some hf
  obtain ⟨k_5, ek_5, hf⟩ := jn1_some hf
  refine va_copyi (ty := .int) hx hb (hml.trans hl.1.symm) hown (hE.w tw_298) (hE.w tw_300) (hE.w tw_299) (hE.w tw_7) hE.2.1 hP hD hS 9 1 0 0 rfl rfl rfl rfl rfl hg4a hg4b hg4c hg4d hg4e (fun _ _ => rfl) (Nat.le_of_ble_eq_true rfl) (by decide +kernel) dX0_become_36 (fun H locs hP hD hS => ?_)
  have hP : va_P E.1 vwCl (wX0 E a k_5 ++ (wX0 E b h0 ++ wX0 E d t0)) H := wst (by rw [ek_5]; exact rfl) hP
  have hD : va_D A (wX0 E a k_5 ++ (wX0 E b h0 ++ wX0 E d t0)) := wsd (by rw [ek_5]; exact rfl) hD
  refine lv_aload_n hx hb dX0_become_39 rfl (lv_at hl 1 rfl) ?_
  refine va_get (D := E.1) (ci := 0) (v := .ref (b 5)) (C := RX0) (T := TX0) (N := 10) hx hb hts inX0 hown hE.2.1 hP 8 rfl rfl 4 (by decide) (hE.w tw_36) (fun _ h9 => h9) rfl dX0_become_40 ?_
  refine lv_iconst (v := (0 : Int32)) hx hb dX0_become_43 (by decide) ?_
  refine lv_aload_n hx hb dX0_become_44 rfl (lv_at hl 0 rfl) ?_
  refine va_get (D := E.1) (ci := 0) (v := .ref (a 5)) (C := RX0) (T := TX0) (N := 10) hx hb hts inX0 hown hE.2.1 hP 0 rfl rfl 4 (by decide) (hE.w tw_36) (fun _ h9 => h9) rfl dX0_become_45 ?_
  refine lv_iconst (v := (0 : Int32)) hx hb dX0_become_48 (by decide) ?_
  refine lv_bipush (v := (16 : Int32)) hx hb dX0_become_49 (by decide) ?_
  obtain ⟨⟨hg6a, hg6b, hg6c, hg6d, hg6e⟩, hf⟩ := gc_some hf
  obtain ⟨k_7, ek_7, hf⟩ := jn1_some hf
  refine va_copyi (ty := .int) hx hb (hml.trans hl.1.symm) hown (hE.w tw_298) (hE.w tw_300) (hE.w tw_299) (hE.w tw_7) hE.2.1 hP hD hS 10 2 0 0 rfl rfl rfl rfl rfl hg6a hg6b hg6c hg6d hg6e (fun _ _ => rfl) (Nat.le_of_ble_eq_true rfl) (by decide +kernel) dX0_become_51 (fun H locs hP hD hS => ?_)
  have hP : va_P E.1 vwCl (wX0 E a k_7 ++ (wX0 E b h0 ++ wX0 E d t0)) H := wst (by rw [ek_7]; exact rfl) hP
  have hD : va_D A (wX0 E a k_7 ++ (wX0 E b h0 ++ wX0 E d t0)) := wsd (by rw [ek_7]; exact rfl) hD
  refine lv_aload_n hx hb dX0_become_54 rfl (lv_at hl 1 rfl) ?_
  refine va_get (D := E.1) (ci := 0) (v := .ref (b 6)) (C := RX0) (T := TX0) (N := 10) hx hb hts inX0 hown hE.2.1 hP 8 rfl rfl 5 (by decide) (hE.w tw_39) (fun _ h9 => h9) rfl dX0_become_55 ?_
  refine lv_iconst (v := (0 : Int32)) hx hb dX0_become_58 (by decide) ?_
  refine lv_aload_n hx hb dX0_become_59 rfl (lv_at hl 0 rfl) ?_
  refine va_get (D := E.1) (ci := 0) (v := .ref (a 6)) (C := RX0) (T := TX0) (N := 10) hx hb hts inX0 hown hE.2.1 hP 0 rfl rfl 5 (by decide) (hE.w tw_39) (fun _ h9 => h9) rfl dX0_become_60 ?_
  refine lv_iconst (v := (0 : Int32)) hx hb dX0_become_63 (by decide) ?_
  refine lv_aload_n hx hb dX0_become_64 rfl (lv_at hl 0 rfl) ?_
  refine va_get (D := E.1) (ci := 0) (v := .int (g0_people k_7)) (C := RX0) (T := TX0) (N := 10) hx hb hts inX0 hown hE.2.1 hP 0 rfl rfl 2 (by decide) (hE.w tw_30) (fun _ h9 => h9) rfl dX0_become_65 ?_
  obtain ⟨⟨hg8a, hg8b, hg8c, hg8d, hg8e⟩, hf⟩ := gc_some hf
  obtain ⟨k_9, ek_9, hf⟩ := jn1_some hf
  refine va_copyi (ty := .int) hx hb (hml.trans hl.1.symm) hown (hE.w tw_298) (hE.w tw_300) (hE.w tw_299) (hE.w tw_7) hE.2.1 hP hD hS 11 3 0 0 rfl rfl rfl rfl rfl hg8a hg8b hg8c hg8d hg8e (fun _ _ => rfl) (Nat.le_of_ble_eq_true rfl) (by decide +kernel) dX0_become_68 (fun H locs hP hD hS => ?_)
  have hP : va_P E.1 vwCl (wX0 E a k_9 ++ (wX0 E b h0 ++ wX0 E d t0)) H := wst (by rw [ek_9]; exact rfl) hP
  have hD : va_D A (wX0 E a k_9 ++ (wX0 E b h0 ++ wX0 E d t0)) := wsd (by rw [ek_9]; exact rfl) hD
  refine lv_aload_n hx hb dX0_become_71 rfl (lv_at hl 1 rfl) ?_
  refine va_get (D := E.1) (ci := 0) (v := .ref (b 7)) (C := RX0) (T := TX0) (N := 10) hx hb hts inX0 hown hE.2.1 hP 8 rfl rfl 6 (by decide) (hE.w tw_41) (fun _ h9 => h9) rfl dX0_become_72 ?_
  refine lv_iconst (v := (0 : Int32)) hx hb dX0_become_75 (by decide) ?_
  refine lv_aload_n hx hb dX0_become_76 rfl (lv_at hl 0 rfl) ?_
  refine va_get (D := E.1) (ci := 0) (v := .ref (a 7)) (C := RX0) (T := TX0) (N := 10) hx hb hts inX0 hown hE.2.1 hP 0 rfl rfl 6 (by decide) (hE.w tw_41) (fun _ h9 => h9) rfl dX0_become_77 ?_
  refine lv_iconst (v := (0 : Int32)) hx hb dX0_become_80 (by decide) ?_
  refine lv_aload_n hx hb dX0_become_81 rfl (lv_at hl 0 rfl) ?_
  refine va_get (D := E.1) (ci := 0) (v := .int (g0_people k_9)) (C := RX0) (T := TX0) (N := 10) hx hb hts inX0 hown hE.2.1 hP 0 rfl rfl 2 (by decide) (hE.w tw_30) (fun _ h9 => h9) rfl dX0_become_82 ?_
  obtain ⟨⟨hg10a, hg10b, hg10c, hg10d, hg10e⟩, hf⟩ := gc_some hf
  obtain ⟨k_11, ek_11, hf⟩ := jn1_some hf
  refine va_copyi (ty := .int) hx hb (hml.trans hl.1.symm) hown (hE.w tw_298) (hE.w tw_300) (hE.w tw_299) (hE.w tw_7) hE.2.1 hP hD hS 12 4 0 0 rfl rfl rfl rfl rfl hg10a hg10b hg10c hg10d hg10e (fun _ _ => rfl) (Nat.le_of_ble_eq_true rfl) (by decide +kernel) dX0_become_85 (fun H locs hP hD hS => ?_)
  have hP : va_P E.1 vwCl (wX0 E a k_11 ++ (wX0 E b h0 ++ wX0 E d t0)) H := wst (by rw [ek_11]; exact rfl) hP
  have hD : va_D A (wX0 E a k_11 ++ (wX0 E b h0 ++ wX0 E d t0)) := wsd (by rw [ek_11]; exact rfl) hD
  refine lv_aload_n hx hb dX0_become_88 rfl (lv_at hl 1 rfl) ?_
  refine va_get (D := E.1) (ci := 0) (v := .ref (b 8)) (C := RX0) (T := TX0) (N := 10) hx hb hts inX0 hown hE.2.1 hP 8 rfl rfl 7 (by decide) (hE.w tw_44) (fun _ h9 => h9) rfl dX0_become_89 ?_
  refine lv_iconst (v := (0 : Int32)) hx hb dX0_become_92 (by decide) ?_
  refine lv_aload_n hx hb dX0_become_93 rfl (lv_at hl 0 rfl) ?_
  refine va_get (D := E.1) (ci := 0) (v := .ref (a 8)) (C := RX0) (T := TX0) (N := 10) hx hb hts inX0 hown hE.2.1 hP 0 rfl rfl 7 (by decide) (hE.w tw_44) (fun _ h9 => h9) rfl dX0_become_94 ?_
  refine lv_iconst (v := (0 : Int32)) hx hb dX0_become_97 (by decide) ?_
  refine lv_aload_n hx hb dX0_become_98 rfl (lv_at hl 0 rfl) ?_
  refine va_get (D := E.1) (ci := 0) (v := .int (g0_people k_11)) (C := RX0) (T := TX0) (N := 10) hx hb hts inX0 hown hE.2.1 hP 0 rfl rfl 2 (by decide) (hE.w tw_30) (fun _ h9 => h9) rfl dX0_become_99 ?_
  obtain ⟨⟨hg12a, hg12b, hg12c, hg12d, hg12e⟩, hf⟩ := gc_some hf
  obtain ⟨k_13, ek_13, hf⟩ := jn1_some hf
  refine va_copyi (ty := .int) hx hb (hml.trans hl.1.symm) hown (hE.w tw_298) (hE.w tw_300) (hE.w tw_299) (hE.w tw_7) hE.2.1 hP hD hS 13 5 0 0 rfl rfl rfl rfl rfl hg12a hg12b hg12c hg12d hg12e (fun _ _ => rfl) (Nat.le_of_ble_eq_true rfl) (by decide +kernel) dX0_become_102 (fun H locs hP hD hS => ?_)
  have hP : va_P E.1 vwCl (wX0 E a k_13 ++ (wX0 E b h0 ++ wX0 E d t0)) H := wst (by rw [ek_13]; exact rfl) hP
  have hD : va_D A (wX0 E a k_13 ++ (wX0 E b h0 ++ wX0 E d t0)) := wsd (by rw [ek_13]; exact rfl) hD
  refine lv_aload_n hx hb dX0_become_105 rfl (lv_at hl 1 rfl) ?_
  refine va_get (D := E.1) (ci := 0) (v := .ref (b 9)) (C := RX0) (T := TX0) (N := 10) hx hb hts inX0 hown hE.2.1 hP 8 rfl rfl 8 (by decide) (hE.w tw_46) (fun _ h9 => h9) rfl dX0_become_106 ?_
  refine lv_iconst (v := (0 : Int32)) hx hb dX0_become_109 (by decide) ?_
  refine lv_aload_n hx hb dX0_become_110 rfl (lv_at hl 0 rfl) ?_
  refine va_get (D := E.1) (ci := 0) (v := .ref (a 9)) (C := RX0) (T := TX0) (N := 10) hx hb hts inX0 hown hE.2.1 hP 0 rfl rfl 8 (by decide) (hE.w tw_46) (fun _ h9 => h9) rfl dX0_become_111 ?_
  refine lv_iconst (v := (0 : Int32)) hx hb dX0_become_114 (by decide) ?_
  refine lv_aload_n hx hb dX0_become_115 rfl (lv_at hl 0 rfl) ?_
  refine va_get (D := E.1) (ci := 0) (v := .int (g0_people k_13)) (C := RX0) (T := TX0) (N := 10) hx hb hts inX0 hown hE.2.1 hP 0 rfl rfl 2 (by decide) (hE.w tw_30) (fun _ h9 => h9) rfl dX0_become_116 ?_
  obtain ⟨⟨hg14a, hg14b, hg14c, hg14d, hg14e⟩, hf⟩ := gc_some hf
  obtain ⟨k_15, ek_15, hf⟩ := jn1_some hf
  refine va_copyi (ty := .int) hx hb (hml.trans hl.1.symm) hown (hE.w tw_298) (hE.w tw_300) (hE.w tw_299) (hE.w tw_7) hE.2.1 hP hD hS 14 6 0 0 rfl rfl rfl rfl rfl hg14a hg14b hg14c hg14d hg14e (fun _ _ => rfl) (Nat.le_of_ble_eq_true rfl) (by decide +kernel) dX0_become_119 (fun H locs hP hD hS => ?_)
  have hP : va_P E.1 vwCl (wX0 E a k_15 ++ (wX0 E b h0 ++ wX0 E d t0)) H := wst (by rw [ek_15]; exact rfl) hP
  have hD : va_D A (wX0 E a k_15 ++ (wX0 E b h0 ++ wX0 E d t0)) := wsd (by rw [ek_15]; exact rfl) hD
  obtain rfl := so1 hf
  exact rt_v hx hb hr hlocks hP hD hS dX0_become_122
def f_X0_become_hk (k0 : HS) (h0 : HS) (t0 : HS) : Option (HS) := jn1 (s0_night h0 (g0_night k0)) (fun h_1 => jn1 (s0_moment h_1 (g0_moment k0)) (fun h_2 => jn1 (s0_people h_2 (g0_people k0)) (fun h_3 => gc (0 : Int32) (0 : Int32) (16 : Int32) 16 16 (jn1 (s0_cues h_3 (va_cpy (g0_cues k0) (g0_cues h_3) (0 : Int32).toNatClampNeg (0 : Int32).toNatClampNeg (16 : Int32).toNatClampNeg)) (fun h_5 => gc (0 : Int32) (0 : Int32) (16 : Int32) 16 16 (jn1 (s0_tenses h_5 (va_cpy (g0_tenses k0) (g0_tenses h_5) (0 : Int32).toNatClampNeg (0 : Int32).toNatClampNeg (16 : Int32).toNatClampNeg)) (fun h_7 => gc (0 : Int32) (0 : Int32) (g0_people h_7) 8 8 (jn1 (s0_kinds h_7 (va_cpy (g0_kinds k0) (g0_kinds h_7) (0 : Int32).toNatClampNeg (0 : Int32).toNatClampNeg (g0_people h_7).toNatClampNeg)) (fun h_9 => gc (0 : Int32) (0 : Int32) (g0_people h_9) 8 8 (jn1 (s0_freshes h_9 (va_cpy (g0_freshes k0) (g0_freshes h_9) (0 : Int32).toNatClampNeg (0 : Int32).toNatClampNeg (g0_people h_9).toNatClampNeg)) (fun h_11 => gc (0 : Int32) (0 : Int32) (g0_people h_11) 8 8 (jn1 (s0_notes h_11 (va_cpy (g0_notes k0) (g0_notes h_11) (0 : Int32).toNatClampNeg (0 : Int32).toNatClampNeg (g0_people h_11).toNatClampNeg)) (fun h_13 => gc (0 : Int32) (0 : Int32) (g0_people h_13) 8 8 (jn1 (s0_dids h_13 (va_cpy (g0_dids k0) (g0_dids h_13) (0 : Int32).toNatClampNeg (0 : Int32).toNatClampNeg (g0_people h_13).toNatClampNeg)) (fun h_15 => some (h_15))))))))))))))))
set_option maxHeartbeats 4000000 in
set_option maxRecDepth 100000 in
theorem c_X0_become_hk (l : Launch) (E : EV) (a : Nat → Nat) (b : Nat → Nat) (d : Nat → Nat) (k0 : HS) (h0 : HS) (t0 : HS)  (h0' : HS) (hf : f_X0_become_hk k0 h0 t0 = some h0') : Ct l E yX0_become cX0_become 2 (none) (rmk 1 40) [.ref (b 0), .ref (a 0)] (wX0 E a k0 ++ (wX0 E b h0 ++ wX0 E d t0)) (wX0 E a k0 ++ (wX0 E b h0' ++ wX0 E d t0)) none := by
  refine Ct.of (by decide) (Nat.le_of_ble_eq_true rfl) ?_
  intro p e s m below meth c A ls hC hP hD hl
  obtain ⟨hx, hb, hr, hml, hown, hlocks, hE, hA⟩ := hC
  have hts : ∀ w ∈ tbl, w.before [.ref (b 0), .ref (a 0)].toArray s = true := fun w hw => hE.w hw
  have hS : va_S A s.heap s.heap [] := va_S.rf
  have hl : lv_has ls 2 [(0, .ref (b 0)), (1, .ref (a 0))] := hl
  unfold f_X0_become_hk at hf
  refine lv_aload_n hx hb dX0_become_0 rfl (lv_at hl 0 rfl) ?_
  refine lv_aload_n hx hb dX0_become_1 rfl (lv_at hl 1 rfl) ?_
  refine va_get (D := E.1) (ci := 0) (v := .int (g0_night k0)) (C := RX0) (T := TX0) (N := 10) hx hb hts inX0 hown hE.2.1 hP 0 rfl rfl 0 (by decide) (hE.w tw_26) (fun _ h9 => h9) rfl dX0_become_2 ?_
  obtain ⟨h_1, eh_1, hf⟩ := jn1_some hf
  refine va_put (D := E.1) (ci := 0) (v := .int (g0_night k0)) (ty := .int) (C := RX0) (T := TX0) (N := 10) hx hb hts inX0 tyX0 tyX0_ok nmX0 hown hE.2.1 hP hD hS 8 rfl rfl 0 (by decide) (hE.w tw_26) (fun _ h9 => h9) rfl (by decide +kernel) rfl rfl (Nat.le_of_ble_eq_true rfl) dX0_become_5 (fun H locs hP hD hS => ?_)
  have hP : va_P E.1 vwCl (wX0 E a k0 ++ (wX0 E b h_1 ++ wX0 E d t0)) H := wst (by rw [eh_1]; exact rfl) hP
  have hD : va_D A (wX0 E a k0 ++ (wX0 E b h_1 ++ wX0 E d t0)) := wsd (by rw [eh_1]; exact rfl) hD
  refine lv_aload_n hx hb dX0_become_8 rfl (lv_at hl 0 rfl) ?_
  refine lv_aload_n hx hb dX0_become_9 rfl (lv_at hl 1 rfl) ?_
  refine va_get (D := E.1) (ci := 0) (v := .int (g0_moment k0)) (C := RX0) (T := TX0) (N := 10) hx hb hts inX0 hown hE.2.1 hP 0 rfl rfl 1 (by decide) (hE.w tw_28) (fun _ h9 => h9) rfl dX0_become_10 ?_
  obtain ⟨h_2, eh_2, hf⟩ := jn1_some hf
  refine va_put (D := E.1) (ci := 0) (v := .int (g0_moment k0)) (ty := .int) (C := RX0) (T := TX0) (N := 10) hx hb hts inX0 tyX0 tyX0_ok nmX0 hown hE.2.1 hP hD hS 8 rfl rfl 1 (by decide) (hE.w tw_28) (fun _ h9 => h9) rfl (by decide +kernel) rfl rfl (Nat.le_of_ble_eq_true rfl) dX0_become_13 (fun H locs hP hD hS => ?_)
  have hP : va_P E.1 vwCl (wX0 E a k0 ++ (wX0 E b h_2 ++ wX0 E d t0)) H := wst (by rw [eh_2]; exact rfl) hP
  have hD : va_D A (wX0 E a k0 ++ (wX0 E b h_2 ++ wX0 E d t0)) := wsd (by rw [eh_2]; exact rfl) hD
  refine lv_aload_n hx hb dX0_become_16 rfl (lv_at hl 0 rfl) ?_
  refine lv_aload_n hx hb dX0_become_17 rfl (lv_at hl 1 rfl) ?_
  refine va_get (D := E.1) (ci := 0) (v := .int (g0_people k0)) (C := RX0) (T := TX0) (N := 10) hx hb hts inX0 hown hE.2.1 hP 0 rfl rfl 2 (by decide) (hE.w tw_30) (fun _ h9 => h9) rfl dX0_become_18 ?_
  obtain ⟨h_3, eh_3, hf⟩ := jn1_some hf
  refine va_put (D := E.1) (ci := 0) (v := .int (g0_people k0)) (ty := .int) (C := RX0) (T := TX0) (N := 10) hx hb hts inX0 tyX0 tyX0_ok nmX0 hown hE.2.1 hP hD hS 8 rfl rfl 2 (by decide) (hE.w tw_30) (fun _ h9 => h9) rfl (by decide +kernel) rfl rfl (Nat.le_of_ble_eq_true rfl) dX0_become_21 (fun H locs hP hD hS => ?_)
  have hP : va_P E.1 vwCl (wX0 E a k0 ++ (wX0 E b h_3 ++ wX0 E d t0)) H := wst (by rw [eh_3]; exact rfl) hP
  have hD : va_D A (wX0 E a k0 ++ (wX0 E b h_3 ++ wX0 E d t0)) := wsd (by rw [eh_3]; exact rfl) hD
  refine lv_aload_n hx hb dX0_become_24 rfl (lv_at hl 1 rfl) ?_
  refine va_get (D := E.1) (ci := 0) (v := .ref (a 4)) (C := RX0) (T := TX0) (N := 10) hx hb hts inX0 hown hE.2.1 hP 0 rfl rfl 3 (by decide) (hE.w tw_33) (fun _ h9 => h9) rfl dX0_become_25 ?_
  refine lv_iconst (v := (0 : Int32)) hx hb dX0_become_28 (by decide) ?_
  refine lv_aload_n hx hb dX0_become_29 rfl (lv_at hl 0 rfl) ?_
  refine va_get (D := E.1) (ci := 0) (v := .ref (b 4)) (C := RX0) (T := TX0) (N := 10) hx hb hts inX0 hown hE.2.1 hP 8 rfl rfl 3 (by decide) (hE.w tw_33) (fun _ h9 => h9) rfl dX0_become_30 ?_
  refine lv_iconst (v := (0 : Int32)) hx hb dX0_become_33 (by decide) ?_
  refine lv_bipush (v := (16 : Int32)) hx hb dX0_become_34 (by decide) ?_
  obtain ⟨⟨hg4a, hg4b, hg4c, hg4d, hg4e⟩, hf⟩ := gc_some hf
  obtain ⟨h_5, eh_5, hf⟩ := jn1_some hf
  refine va_copyi (ty := .int) hx hb (hml.trans hl.1.symm) hown (hE.w tw_298) (hE.w tw_300) (hE.w tw_299) (hE.w tw_7) hE.2.1 hP hD hS 1 9 0 0 rfl rfl rfl rfl rfl hg4a hg4b hg4c hg4d hg4e (fun _ _ => rfl) (Nat.le_of_ble_eq_true rfl) (by decide +kernel) dX0_become_36 (fun H locs hP hD hS => ?_)
  have hP : va_P E.1 vwCl (wX0 E a k0 ++ (wX0 E b h_5 ++ wX0 E d t0)) H := wst (by rw [eh_5]; exact rfl) hP
  have hD : va_D A (wX0 E a k0 ++ (wX0 E b h_5 ++ wX0 E d t0)) := wsd (by rw [eh_5]; exact rfl) hD
  refine lv_aload_n hx hb dX0_become_39 rfl (lv_at hl 1 rfl) ?_
  refine va_get (D := E.1) (ci := 0) (v := .ref (a 5)) (C := RX0) (T := TX0) (N := 10) hx hb hts inX0 hown hE.2.1 hP 0 rfl rfl 4 (by decide) (hE.w tw_36) (fun _ h9 => h9) rfl dX0_become_40 ?_
  refine lv_iconst (v := (0 : Int32)) hx hb dX0_become_43 (by decide) ?_
  refine lv_aload_n hx hb dX0_become_44 rfl (lv_at hl 0 rfl) ?_
  refine va_get (D := E.1) (ci := 0) (v := .ref (b 5)) (C := RX0) (T := TX0) (N := 10) hx hb hts inX0 hown hE.2.1 hP 8 rfl rfl 4 (by decide) (hE.w tw_36) (fun _ h9 => h9) rfl dX0_become_45 ?_
  refine lv_iconst (v := (0 : Int32)) hx hb dX0_become_48 (by decide) ?_
  refine lv_bipush (v := (16 : Int32)) hx hb dX0_become_49 (by decide) ?_
  obtain ⟨⟨hg6a, hg6b, hg6c, hg6d, hg6e⟩, hf⟩ := gc_some hf
  obtain ⟨h_7, eh_7, hf⟩ := jn1_some hf
  refine va_copyi (ty := .int) hx hb (hml.trans hl.1.symm) hown (hE.w tw_298) (hE.w tw_300) (hE.w tw_299) (hE.w tw_7) hE.2.1 hP hD hS 2 10 0 0 rfl rfl rfl rfl rfl hg6a hg6b hg6c hg6d hg6e (fun _ _ => rfl) (Nat.le_of_ble_eq_true rfl) (by decide +kernel) dX0_become_51 (fun H locs hP hD hS => ?_)
  have hP : va_P E.1 vwCl (wX0 E a k0 ++ (wX0 E b h_7 ++ wX0 E d t0)) H := wst (by rw [eh_7]; exact rfl) hP
  have hD : va_D A (wX0 E a k0 ++ (wX0 E b h_7 ++ wX0 E d t0)) := wsd (by rw [eh_7]; exact rfl) hD
  refine lv_aload_n hx hb dX0_become_54 rfl (lv_at hl 1 rfl) ?_
  refine va_get (D := E.1) (ci := 0) (v := .ref (a 6)) (C := RX0) (T := TX0) (N := 10) hx hb hts inX0 hown hE.2.1 hP 0 rfl rfl 5 (by decide) (hE.w tw_39) (fun _ h9 => h9) rfl dX0_become_55 ?_
  refine lv_iconst (v := (0 : Int32)) hx hb dX0_become_58 (by decide) ?_
  refine lv_aload_n hx hb dX0_become_59 rfl (lv_at hl 0 rfl) ?_
  refine va_get (D := E.1) (ci := 0) (v := .ref (b 6)) (C := RX0) (T := TX0) (N := 10) hx hb hts inX0 hown hE.2.1 hP 8 rfl rfl 5 (by decide) (hE.w tw_39) (fun _ h9 => h9) rfl dX0_become_60 ?_
  refine lv_iconst (v := (0 : Int32)) hx hb dX0_become_63 (by decide) ?_
  refine lv_aload_n hx hb dX0_become_64 rfl (lv_at hl 0 rfl) ?_
  refine va_get (D := E.1) (ci := 0) (v := .int (g0_people h_7)) (C := RX0) (T := TX0) (N := 10) hx hb hts inX0 hown hE.2.1 hP 8 rfl rfl 2 (by decide) (hE.w tw_30) (fun _ h9 => h9) rfl dX0_become_65 ?_
  obtain ⟨⟨hg8a, hg8b, hg8c, hg8d, hg8e⟩, hf⟩ := gc_some hf
  obtain ⟨h_9, eh_9, hf⟩ := jn1_some hf
  refine va_copyi (ty := .int) hx hb (hml.trans hl.1.symm) hown (hE.w tw_298) (hE.w tw_300) (hE.w tw_299) (hE.w tw_7) hE.2.1 hP hD hS 3 11 0 0 rfl rfl rfl rfl rfl hg8a hg8b hg8c hg8d hg8e (fun _ _ => rfl) (Nat.le_of_ble_eq_true rfl) (by decide +kernel) dX0_become_68 (fun H locs hP hD hS => ?_)
  have hP : va_P E.1 vwCl (wX0 E a k0 ++ (wX0 E b h_9 ++ wX0 E d t0)) H := wst (by rw [eh_9]; exact rfl) hP
  have hD : va_D A (wX0 E a k0 ++ (wX0 E b h_9 ++ wX0 E d t0)) := wsd (by rw [eh_9]; exact rfl) hD
  refine lv_aload_n hx hb dX0_become_71 rfl (lv_at hl 1 rfl) ?_
  refine va_get (D := E.1) (ci := 0) (v := .ref (a 7)) (C := RX0) (T := TX0) (N := 10) hx hb hts inX0 hown hE.2.1 hP 0 rfl rfl 6 (by decide) (hE.w tw_41) (fun _ h9 => h9) rfl dX0_become_72 ?_
  refine lv_iconst (v := (0 : Int32)) hx hb dX0_become_75 (by decide) ?_
  refine lv_aload_n hx hb dX0_become_76 rfl (lv_at hl 0 rfl) ?_
  refine va_get (D := E.1) (ci := 0) (v := .ref (b 7)) (C := RX0) (T := TX0) (N := 10) hx hb hts inX0 hown hE.2.1 hP 8 rfl rfl 6 (by decide) (hE.w tw_41) (fun _ h9 => h9) rfl dX0_become_77 ?_
  refine lv_iconst (v := (0 : Int32)) hx hb dX0_become_80 (by decide) ?_
  refine lv_aload_n hx hb dX0_become_81 rfl (lv_at hl 0 rfl) ?_
  refine va_get (D := E.1) (ci := 0) (v := .int (g0_people h_9)) (C := RX0) (T := TX0) (N := 10) hx hb hts inX0 hown hE.2.1 hP 8 rfl rfl 2 (by decide) (hE.w tw_30) (fun _ h9 => h9) rfl dX0_become_82 ?_
  obtain ⟨⟨hg10a, hg10b, hg10c, hg10d, hg10e⟩, hf⟩ := gc_some hf
  obtain ⟨h_11, eh_11, hf⟩ := jn1_some hf
  refine va_copyi (ty := .int) hx hb (hml.trans hl.1.symm) hown (hE.w tw_298) (hE.w tw_300) (hE.w tw_299) (hE.w tw_7) hE.2.1 hP hD hS 4 12 0 0 rfl rfl rfl rfl rfl hg10a hg10b hg10c hg10d hg10e (fun _ _ => rfl) (Nat.le_of_ble_eq_true rfl) (by decide +kernel) dX0_become_85 (fun H locs hP hD hS => ?_)
  have hP : va_P E.1 vwCl (wX0 E a k0 ++ (wX0 E b h_11 ++ wX0 E d t0)) H := wst (by rw [eh_11]; exact rfl) hP
  have hD : va_D A (wX0 E a k0 ++ (wX0 E b h_11 ++ wX0 E d t0)) := wsd (by rw [eh_11]; exact rfl) hD
  refine lv_aload_n hx hb dX0_become_88 rfl (lv_at hl 1 rfl) ?_
  refine va_get (D := E.1) (ci := 0) (v := .ref (a 8)) (C := RX0) (T := TX0) (N := 10) hx hb hts inX0 hown hE.2.1 hP 0 rfl rfl 7 (by decide) (hE.w tw_44) (fun _ h9 => h9) rfl dX0_become_89 ?_
  refine lv_iconst (v := (0 : Int32)) hx hb dX0_become_92 (by decide) ?_
  refine lv_aload_n hx hb dX0_become_93 rfl (lv_at hl 0 rfl) ?_
  refine va_get (D := E.1) (ci := 0) (v := .ref (b 8)) (C := RX0) (T := TX0) (N := 10) hx hb hts inX0 hown hE.2.1 hP 8 rfl rfl 7 (by decide) (hE.w tw_44) (fun _ h9 => h9) rfl dX0_become_94 ?_
  refine lv_iconst (v := (0 : Int32)) hx hb dX0_become_97 (by decide) ?_
  refine lv_aload_n hx hb dX0_become_98 rfl (lv_at hl 0 rfl) ?_
  refine va_get (D := E.1) (ci := 0) (v := .int (g0_people h_11)) (C := RX0) (T := TX0) (N := 10) hx hb hts inX0 hown hE.2.1 hP 8 rfl rfl 2 (by decide) (hE.w tw_30) (fun _ h9 => h9) rfl dX0_become_99 ?_
  obtain ⟨⟨hg12a, hg12b, hg12c, hg12d, hg12e⟩, hf⟩ := gc_some hf
  obtain ⟨h_13, eh_13, hf⟩ := jn1_some hf
  refine va_copyi (ty := .int) hx hb (hml.trans hl.1.symm) hown (hE.w tw_298) (hE.w tw_300) (hE.w tw_299) (hE.w tw_7) hE.2.1 hP hD hS 5 13 0 0 rfl rfl rfl rfl rfl hg12a hg12b hg12c hg12d hg12e (fun _ _ => rfl) (Nat.le_of_ble_eq_true rfl) (by decide +kernel) dX0_become_102 (fun H locs hP hD hS => ?_)
  have hP : va_P E.1 vwCl (wX0 E a k0 ++ (wX0 E b h_13 ++ wX0 E d t0)) H := wst (by rw [eh_13]; exact rfl) hP
  have hD : va_D A (wX0 E a k0 ++ (wX0 E b h_13 ++ wX0 E d t0)) := wsd (by rw [eh_13]; exact rfl) hD
  refine lv_aload_n hx hb dX0_become_105 rfl (lv_at hl 1 rfl) ?_
  refine va_get (D := E.1) (ci := 0) (v := .ref (a 9)) (C := RX0) (T := TX0) (N := 10) hx hb hts inX0 hown hE.2.1 hP 0 rfl rfl 8 (by decide) (hE.w tw_46) (fun _ h9 => h9) rfl dX0_become_106 ?_
  refine lv_iconst (v := (0 : Int32)) hx hb dX0_become_109 (by decide) ?_
  refine lv_aload_n hx hb dX0_become_110 rfl (lv_at hl 0 rfl) ?_
  refine va_get (D := E.1) (ci := 0) (v := .ref (b 9)) (C := RX0) (T := TX0) (N := 10) hx hb hts inX0 hown hE.2.1 hP 8 rfl rfl 8 (by decide) (hE.w tw_46) (fun _ h9 => h9) rfl dX0_become_111 ?_
  refine lv_iconst (v := (0 : Int32)) hx hb dX0_become_114 (by decide) ?_
  refine lv_aload_n hx hb dX0_become_115 rfl (lv_at hl 0 rfl) ?_
  refine va_get (D := E.1) (ci := 0) (v := .int (g0_people h_13)) (C := RX0) (T := TX0) (N := 10) hx hb hts inX0 hown hE.2.1 hP 8 rfl rfl 2 (by decide) (hE.w tw_30) (fun _ h9 => h9) rfl dX0_become_116 ?_
  obtain ⟨⟨hg14a, hg14b, hg14c, hg14d, hg14e⟩, hf⟩ := gc_some hf
  obtain ⟨h_15, eh_15, hf⟩ := jn1_some hf
  refine va_copyi (ty := .int) hx hb (hml.trans hl.1.symm) hown (hE.w tw_298) (hE.w tw_300) (hE.w tw_299) (hE.w tw_7) hE.2.1 hP hD hS 6 14 0 0 rfl rfl rfl rfl rfl hg14a hg14b hg14c hg14d hg14e (fun _ _ => rfl) (Nat.le_of_ble_eq_true rfl) (by decide +kernel) dX0_become_119 (fun H locs hP hD hS => ?_)
  have hP : va_P E.1 vwCl (wX0 E a k0 ++ (wX0 E b h_15 ++ wX0 E d t0)) H := wst (by rw [eh_15]; exact rfl) hP
  have hD : va_D A (wX0 E a k0 ++ (wX0 E b h_15 ++ wX0 E d t0)) := wsd (by rw [eh_15]; exact rfl) hD
  obtain rfl := so1 hf
  exact rt_v hx hb hr hlocks hP hD hS dX0_become_122
