def f_X3_sheet (n : NS) (p1 : Int32) (p2 : Int32) (p3 : Int32) : Option (Int32 × NS) := bd1 (f_X3_isSheet p1) (fun r2 => if (bI r2) = 0 then bd2 (f_X3_finding n (-1000000001 : Int32)) (fun r5 n6 => some (r5, n6)) else if p2 = 0 then if 0 ≤ p3 then if p3 ≤ (40 : Int32) then gd p1 4 (bd1 (f_X1_layOut ((g3_sheets n) (p1.toNatClampNeg)) p2 p3) (fun s13 => jn1 (s3_sheets n (va_up (g3_sheets n) (p1.toNatClampNeg) s13)) (fun n_14 => gd p1 4 (some ((g1_size ((g3_sheets n_14) (p1.toNatClampNeg))), n_14))))) else bd2 (f_X3_finding n (-1000000001 : Int32)) (fun r18 n19 => some (r18, n19)) else bd2 (f_X3_finding n (-1000000007 : Int32)) (fun r21 n22 => some (r21, n22)) else if p2 = (8 : Int32) then if 0 ≤ p3 then if p3 ≤ (40 : Int32) then gd p1 4 (bd1 (f_X1_layOut ((g3_sheets n) (p1.toNatClampNeg)) p2 p3) (fun s29 => jn1 (s3_sheets n (va_up (g3_sheets n) (p1.toNatClampNeg) s29)) (fun n_30 => gd p1 4 (some ((g1_size ((g3_sheets n_30) (p1.toNatClampNeg))), n_30))))) else bd2 (f_X3_finding n (-1000000001 : Int32)) (fun r34 n35 => some (r34, n35)) else bd2 (f_X3_finding n (-1000000007 : Int32)) (fun r37 n38 => some (r37, n38)) else if p2 = (16 : Int32) then if 0 ≤ p3 then if p3 ≤ (40 : Int32) then gd p1 4 (bd1 (f_X1_layOut ((g3_sheets n) (p1.toNatClampNeg)) p2 p3) (fun s45 => jn1 (s3_sheets n (va_up (g3_sheets n) (p1.toNatClampNeg) s45)) (fun n_46 => gd p1 4 (some ((g1_size ((g3_sheets n_46) (p1.toNatClampNeg))), n_46))))) else bd2 (f_X3_finding n (-1000000001 : Int32)) (fun r50 n51 => some (r50, n51)) else bd2 (f_X3_finding n (-1000000007 : Int32)) (fun r53 n54 => some (r53, n54)) else if p2 = (64 : Int32) then if 0 ≤ p3 then if p3 ≤ (40 : Int32) then gd p1 4 (bd1 (f_X1_layOut ((g3_sheets n) (p1.toNatClampNeg)) p2 p3) (fun s61 => jn1 (s3_sheets n (va_up (g3_sheets n) (p1.toNatClampNeg) s61)) (fun n_62 => gd p1 4 (some ((g1_size ((g3_sheets n_62) (p1.toNatClampNeg))), n_62))))) else bd2 (f_X3_finding n (-1000000001 : Int32)) (fun r66 n67 => some (r66, n67)) else bd2 (f_X3_finding n (-1000000007 : Int32)) (fun r69 n70 => some (r69, n70)) else bd2 (f_X3_finding n (-1000000001 : Int32)) (fun r72 n73 => some (r72, n73)))
set_option maxHeartbeats 4000000 in
set_option maxRecDepth 100000 in
theorem c_X3_sheet (l : Launch) (E : EV) (a : Nat → Nat → Nat) (n : NS) (p1 : Int32) (p2 : Int32) (p3 : Int32)  (r : Int32) (n' : NS) (hf : f_X3_sheet n p1 p2 p3 = some (r, n')) : Ct l E yX3_sheet cX3_sheet 4 ((Option.some FieldType.int)) (rmk 2 42) [.ref ((a 8) 0), .int p1, .int p2, .int p3] (wX3 E a n) (wX3 E a n') (some (.int r)) := by
  refine Ct.of (by decide) (Nat.le_of_ble_eq_true rfl) ?_
  intro p e s m below meth c A ls hC hP hD hl
  obtain ⟨hx, hb, hr, hml, hown, hlocks, hE, hA⟩ := hC
  have hts : ∀ w ∈ tbl, w.before [.ref ((a 8) 0), .int p1, .int p2, .int p3].toArray s = true := fun w hw => hE.w hw
  have hS : va_S A s.heap s.heap [] := va_S.rf
  have hl : lv_has ls 4 [(0, .ref ((a 8) 0)), (1, .int p1), (2, .int p2), (3, .int p3)] := hl
  unfold f_X3_sheet at hf
  refine lv_iload_n hx hb dX3_sheet_0 rfl (lv_at hl 1 rfl) ?_
  obtain ⟨r2, hc1, hf⟩ := bd1_some hf
  refine cS (X := List.take 0 (wX3 E a n)) (Y := List.drop 0 (wX3 E a n)) (w := (wX3 E a n)) (w' := (wX3 E a n)) lk_X3_157 hx hb hml hown hE hA (c_X3_isSheet l E p1 r2 hc1) rfl rfl hP hD hS ⟨rfl, rfl, Nat.le_of_ble_eq_true rfl, Nat.le_of_ble_eq_true rfl⟩ hl.1 (As := [.int p1]) (rest := []) rfl rfl (Nat.le_of_ble_eq_true rfl) ⟨Nat.zero_le _, Nat.zero_le _⟩ dX3_sheet_1 (fun H locs hP hD hS => ?_)
  refine W.eq (g2 := F0 m 4 ls [.int (bI r2)]) rfl ?_
  refine lv_if_eq (tgt := 29) hx hb dX3_sheet_4 (by decide) (fun c3 => ?_) (fun c3 => ?_)
  · have hf := ip c3 hf
    refine lv_aload_n hx hb dX3_sheet_29 rfl (lv_at hl 0 rfl) ?_
    refine lv_ldc (v := (-1000000001 : Int32)) hx hb hown (hE.w tw_148) dX3_sheet_30 ?_
    obtain ⟨r5, n6, hc4, hf⟩ := bd2_some hf
    refine cV (X := List.take 0 (wX3 E a n)) (Y := List.drop 37 (wX3 E a n)) (w := (wX3 E a n)) (w' := (wX3 E a n6)) (q0 := 0) lk_X3_49 hx hb hml hown hE hA (c_X3_finding l E a n (-1000000001 : Int32) r5 n6 hc4) rfl rfl hP hD hS rfl rfl ⟨rfl, rfl, Nat.le_of_ble_eq_true rfl, Nat.le_of_ble_eq_true rfl⟩ hl.1 (As := [.int (-1000000001 : Int32)]) (rest := []) rfl rfl (Nat.le_of_ble_eq_true rfl) ⟨Nat.zero_le _, Nat.zero_le _⟩ dX3_sheet_32 (fun H locs hP hD hS => ?_)
    refine W.eq (g2 := F0 m 35 ls [.int r5]) rfl ?_
    obtain ⟨rfl, rfl⟩ := so2 hf
    exact rt_i hx hb hr hlocks hP hD hS dX3_sheet_35
  · have hf := im c3 hf
    refine lv_iload_n hx hb dX3_sheet_7 rfl (lv_at hl 2 rfl) ?_
    refine lv_if_eq (tgt := 36) hx hb dX3_sheet_8 (by decide) (fun c7 => ?_) (fun c7 => ?_)
    · have hf := ip c7 hf
      refine lv_iload_n hx hb dX3_sheet_36 rfl (lv_at hl 3 rfl) ?_
      refine lv_if_ge (tgt := 47) hx hb dX3_sheet_37 (by decide) (fun c8 => ?_) (fun c8 => ?_)
      · have hf := ip c8 hf
        refine lv_iload_n hx hb dX3_sheet_47 rfl (lv_at hl 3 rfl) ?_
        refine lv_bipush (v := (40 : Int32)) hx hb dX3_sheet_48 (by decide) ?_
        refine lv_icmp_le (tgt := 60) hx hb dX3_sheet_50 (by decide) (fun c9 => ?_) (fun c9 => ?_)
        · have hf := ip c9 hf
          refine lv_aload_n hx hb dX3_sheet_60 rfl (lv_at hl 0 rfl) ?_
          refine va_get (D := E.1) (ci := 3) (v := .ref (a 8 1)) (C := RX3) (T := TX3) (N := 7) hx hb hts inX3 hown hE.2.1 hP 0 rfl rfl 5 (by decide) (hE.w tw_124) (fun _ h9 => h9) rfl dX3_sheet_61 ?_
          refine lv_iload_n hx hb dX3_sheet_64 rfl (lv_at hl 1 rfl) ?_
          obtain ⟨hg10, hf⟩ := gd_some hf
          have hk11 := vp_lt hg10
          refine va_aldq hx hb hE.2.1 hP 27 3 rfl rfl hg10 dX3_sheet_65 ?_
          refine W.eq (g2 := F0 m 66 ls [.ref (a (4 + p1.toNatClampNeg) 0)]) rfl ?_
          refine lv_iload_n hx hb dX3_sheet_66 rfl (lv_at hl 2 rfl) ?_
          refine lv_iload_n hx hb dX3_sheet_67 rfl (lv_at hl 3 rfl) ?_
          obtain ⟨s13, hc12, hf⟩ := bd1_some hf
          obtain ⟨n_14, en_14, hf⟩ := jn1_some hf
          refine cVN (w := (wX3 E a n)) (w' := (wX3 E a n_14)) (q0 := 0) lk_X3_161 hx hb hml hown hE hA (c_X1_layOut l E (a (4 + p1.toNatClampNeg)) ((g3_sheets n) (p1.toNatClampNeg)) p2 p3 s13 hc12) (wX3_spl E a _ hk11) (by rw [en_14]; exact wX3_spl' E a _ _ hk11) hP hD hS rfl rfl ⟨rfl, rfl, Nat.le_of_ble_eq_true rfl, Nat.le_of_ble_eq_true rfl⟩ hl.1 (As := [.int p2, .int p3]) (rest := []) rfl rfl (Nat.le_of_ble_eq_true rfl) ⟨Nat.zero_le _, Nat.zero_le _⟩ dX3_sheet_68 (fun H locs hP hD hS => ?_)
          refine W.eq (g2 := F0 m 71 ls []) rfl ?_
          refine lv_aload_n hx hb dX3_sheet_71 rfl (lv_at hl 0 rfl) ?_
          refine va_get (D := E.1) (ci := 3) (v := .ref (a 8 1)) (C := RX3) (T := TX3) (N := 7) hx hb hts inX3 hown hE.2.1 hP 0 rfl rfl 5 (by decide) (hE.w tw_124) (fun _ h9 => h9) rfl dX3_sheet_72 ?_
          refine lv_iload_n hx hb dX3_sheet_75 rfl (lv_at hl 1 rfl) ?_
          obtain ⟨hg15, hf⟩ := gd_some hf
          have hk16 := vp_lt hg15
          refine va_aldq hx hb hE.2.1 hP 27 3 rfl rfl hg15 dX3_sheet_76 ?_
          refine W.eq (g2 := F0 m 77 ls [.ref (a (4 + p1.toNatClampNeg) 0)]) rfl ?_
          refine va_getN (D := E.1) (ci := 1) (v := .int (g1_size ((g3_sheets n_14) (p1.toNatClampNeg)))) (C := RX1) (T := TX1) (N := 3) hx hb hts inX1 hown hE.2.1 hP (28 + 2 * p1.toNatClampNeg) (wX3_sh E a _ hk16) rfl 2 (by decide) (hE.w tw_110) (fun _ h9 => h9) rfl dX3_sheet_77 ?_
          obtain ⟨rfl, rfl⟩ := so2 hf
          exact rt_i hx hb hr hlocks hP hD hS dX3_sheet_80
        · have hf := im c9 hf
          refine lv_aload_n hx hb dX3_sheet_53 rfl (lv_at hl 0 rfl) ?_
          refine lv_ldc (v := (-1000000001 : Int32)) hx hb hown (hE.w tw_148) dX3_sheet_54 ?_
          obtain ⟨r18, n19, hc17, hf⟩ := bd2_some hf
          refine cV (X := List.take 0 (wX3 E a n)) (Y := List.drop 37 (wX3 E a n)) (w := (wX3 E a n)) (w' := (wX3 E a n19)) (q0 := 0) lk_X3_49 hx hb hml hown hE hA (c_X3_finding l E a n (-1000000001 : Int32) r18 n19 hc17) rfl rfl hP hD hS rfl rfl ⟨rfl, rfl, Nat.le_of_ble_eq_true rfl, Nat.le_of_ble_eq_true rfl⟩ hl.1 (As := [.int (-1000000001 : Int32)]) (rest := []) rfl rfl (Nat.le_of_ble_eq_true rfl) ⟨Nat.zero_le _, Nat.zero_le _⟩ dX3_sheet_56 (fun H locs hP hD hS => ?_)
          refine W.eq (g2 := F0 m 59 ls [.int r18]) rfl ?_
          obtain ⟨rfl, rfl⟩ := so2 hf
          exact rt_i hx hb hr hlocks hP hD hS dX3_sheet_59
      · have hf := im c8 hf
        refine lv_aload_n hx hb dX3_sheet_40 rfl (lv_at hl 0 rfl) ?_
        refine lv_ldc (v := (-1000000007 : Int32)) hx hb hown (hE.w tw_520) dX3_sheet_41 ?_
        obtain ⟨r21, n22, hc20, hf⟩ := bd2_some hf
        refine cV (X := List.take 0 (wX3 E a n)) (Y := List.drop 37 (wX3 E a n)) (w := (wX3 E a n)) (w' := (wX3 E a n22)) (q0 := 0) lk_X3_49 hx hb hml hown hE hA (c_X3_finding l E a n (-1000000007 : Int32) r21 n22 hc20) rfl rfl hP hD hS rfl rfl ⟨rfl, rfl, Nat.le_of_ble_eq_true rfl, Nat.le_of_ble_eq_true rfl⟩ hl.1 (As := [.int (-1000000007 : Int32)]) (rest := []) rfl rfl (Nat.le_of_ble_eq_true rfl) ⟨Nat.zero_le _, Nat.zero_le _⟩ dX3_sheet_43 (fun H locs hP hD hS => ?_)
        refine W.eq (g2 := F0 m 46 ls [.int r21]) rfl ?_
        obtain ⟨rfl, rfl⟩ := so2 hf
        exact rt_i hx hb hr hlocks hP hD hS dX3_sheet_46
    · have hf := im c7 hf
      refine lv_iload_n hx hb dX3_sheet_11 rfl (lv_at hl 2 rfl) ?_
      refine lv_bipush (v := (8 : Int32)) hx hb dX3_sheet_12 (by decide) ?_
      refine lv_icmp_eq (tgt := 36) hx hb dX3_sheet_14 (by decide) (fun c23 => ?_) (fun c23 => ?_)
      · have hf := ip c23 hf
        refine lv_iload_n hx hb dX3_sheet_36 rfl (lv_at hl 3 rfl) ?_
        refine lv_if_ge (tgt := 47) hx hb dX3_sheet_37 (by decide) (fun c24 => ?_) (fun c24 => ?_)
        · have hf := ip c24 hf
          refine lv_iload_n hx hb dX3_sheet_47 rfl (lv_at hl 3 rfl) ?_
          refine lv_bipush (v := (40 : Int32)) hx hb dX3_sheet_48 (by decide) ?_
          refine lv_icmp_le (tgt := 60) hx hb dX3_sheet_50 (by decide) (fun c25 => ?_) (fun c25 => ?_)
          · have hf := ip c25 hf
            refine lv_aload_n hx hb dX3_sheet_60 rfl (lv_at hl 0 rfl) ?_
            refine va_get (D := E.1) (ci := 3) (v := .ref (a 8 1)) (C := RX3) (T := TX3) (N := 7) hx hb hts inX3 hown hE.2.1 hP 0 rfl rfl 5 (by decide) (hE.w tw_124) (fun _ h9 => h9) rfl dX3_sheet_61 ?_
            refine lv_iload_n hx hb dX3_sheet_64 rfl (lv_at hl 1 rfl) ?_
            obtain ⟨hg26, hf⟩ := gd_some hf
            have hk27 := vp_lt hg26
            refine va_aldq hx hb hE.2.1 hP 27 3 rfl rfl hg26 dX3_sheet_65 ?_
            refine W.eq (g2 := F0 m 66 ls [.ref (a (4 + p1.toNatClampNeg) 0)]) rfl ?_
            refine lv_iload_n hx hb dX3_sheet_66 rfl (lv_at hl 2 rfl) ?_
            refine lv_iload_n hx hb dX3_sheet_67 rfl (lv_at hl 3 rfl) ?_
            obtain ⟨s29, hc28, hf⟩ := bd1_some hf
            obtain ⟨n_30, en_30, hf⟩ := jn1_some hf
            refine cVN (w := (wX3 E a n)) (w' := (wX3 E a n_30)) (q0 := 0) lk_X3_161 hx hb hml hown hE hA (c_X1_layOut l E (a (4 + p1.toNatClampNeg)) ((g3_sheets n) (p1.toNatClampNeg)) p2 p3 s29 hc28) (wX3_spl E a _ hk27) (by rw [en_30]; exact wX3_spl' E a _ _ hk27) hP hD hS rfl rfl ⟨rfl, rfl, Nat.le_of_ble_eq_true rfl, Nat.le_of_ble_eq_true rfl⟩ hl.1 (As := [.int p2, .int p3]) (rest := []) rfl rfl (Nat.le_of_ble_eq_true rfl) ⟨Nat.zero_le _, Nat.zero_le _⟩ dX3_sheet_68 (fun H locs hP hD hS => ?_)
            refine W.eq (g2 := F0 m 71 ls []) rfl ?_
            refine lv_aload_n hx hb dX3_sheet_71 rfl (lv_at hl 0 rfl) ?_
            refine va_get (D := E.1) (ci := 3) (v := .ref (a 8 1)) (C := RX3) (T := TX3) (N := 7) hx hb hts inX3 hown hE.2.1 hP 0 rfl rfl 5 (by decide) (hE.w tw_124) (fun _ h9 => h9) rfl dX3_sheet_72 ?_
            refine lv_iload_n hx hb dX3_sheet_75 rfl (lv_at hl 1 rfl) ?_
            obtain ⟨hg31, hf⟩ := gd_some hf
            have hk32 := vp_lt hg31
            refine va_aldq hx hb hE.2.1 hP 27 3 rfl rfl hg31 dX3_sheet_76 ?_
            refine W.eq (g2 := F0 m 77 ls [.ref (a (4 + p1.toNatClampNeg) 0)]) rfl ?_
            refine va_getN (D := E.1) (ci := 1) (v := .int (g1_size ((g3_sheets n_30) (p1.toNatClampNeg)))) (C := RX1) (T := TX1) (N := 3) hx hb hts inX1 hown hE.2.1 hP (28 + 2 * p1.toNatClampNeg) (wX3_sh E a _ hk32) rfl 2 (by decide) (hE.w tw_110) (fun _ h9 => h9) rfl dX3_sheet_77 ?_
            obtain ⟨rfl, rfl⟩ := so2 hf
            exact rt_i hx hb hr hlocks hP hD hS dX3_sheet_80
          · have hf := im c25 hf
            refine lv_aload_n hx hb dX3_sheet_53 rfl (lv_at hl 0 rfl) ?_
            refine lv_ldc (v := (-1000000001 : Int32)) hx hb hown (hE.w tw_148) dX3_sheet_54 ?_
            obtain ⟨r34, n35, hc33, hf⟩ := bd2_some hf
            refine cV (X := List.take 0 (wX3 E a n)) (Y := List.drop 37 (wX3 E a n)) (w := (wX3 E a n)) (w' := (wX3 E a n35)) (q0 := 0) lk_X3_49 hx hb hml hown hE hA (c_X3_finding l E a n (-1000000001 : Int32) r34 n35 hc33) rfl rfl hP hD hS rfl rfl ⟨rfl, rfl, Nat.le_of_ble_eq_true rfl, Nat.le_of_ble_eq_true rfl⟩ hl.1 (As := [.int (-1000000001 : Int32)]) (rest := []) rfl rfl (Nat.le_of_ble_eq_true rfl) ⟨Nat.zero_le _, Nat.zero_le _⟩ dX3_sheet_56 (fun H locs hP hD hS => ?_)
            refine W.eq (g2 := F0 m 59 ls [.int r34]) rfl ?_
            obtain ⟨rfl, rfl⟩ := so2 hf
            exact rt_i hx hb hr hlocks hP hD hS dX3_sheet_59
        · have hf := im c24 hf
          refine lv_aload_n hx hb dX3_sheet_40 rfl (lv_at hl 0 rfl) ?_
          refine lv_ldc (v := (-1000000007 : Int32)) hx hb hown (hE.w tw_520) dX3_sheet_41 ?_
          obtain ⟨r37, n38, hc36, hf⟩ := bd2_some hf
          refine cV (X := List.take 0 (wX3 E a n)) (Y := List.drop 37 (wX3 E a n)) (w := (wX3 E a n)) (w' := (wX3 E a n38)) (q0 := 0) lk_X3_49 hx hb hml hown hE hA (c_X3_finding l E a n (-1000000007 : Int32) r37 n38 hc36) rfl rfl hP hD hS rfl rfl ⟨rfl, rfl, Nat.le_of_ble_eq_true rfl, Nat.le_of_ble_eq_true rfl⟩ hl.1 (As := [.int (-1000000007 : Int32)]) (rest := []) rfl rfl (Nat.le_of_ble_eq_true rfl) ⟨Nat.zero_le _, Nat.zero_le _⟩ dX3_sheet_43 (fun H locs hP hD hS => ?_)
          refine W.eq (g2 := F0 m 46 ls [.int r37]) rfl ?_
          obtain ⟨rfl, rfl⟩ := so2 hf
          exact rt_i hx hb hr hlocks hP hD hS dX3_sheet_46
      · have hf := im c23 hf
        refine lv_iload_n hx hb dX3_sheet_17 rfl (lv_at hl 2 rfl) ?_
        refine lv_bipush (v := (16 : Int32)) hx hb dX3_sheet_18 (by decide) ?_
        refine lv_icmp_eq (tgt := 36) hx hb dX3_sheet_20 (by decide) (fun c39 => ?_) (fun c39 => ?_)
        · have hf := ip c39 hf
          refine lv_iload_n hx hb dX3_sheet_36 rfl (lv_at hl 3 rfl) ?_
          refine lv_if_ge (tgt := 47) hx hb dX3_sheet_37 (by decide) (fun c40 => ?_) (fun c40 => ?_)
          · have hf := ip c40 hf
            refine lv_iload_n hx hb dX3_sheet_47 rfl (lv_at hl 3 rfl) ?_
            refine lv_bipush (v := (40 : Int32)) hx hb dX3_sheet_48 (by decide) ?_
            refine lv_icmp_le (tgt := 60) hx hb dX3_sheet_50 (by decide) (fun c41 => ?_) (fun c41 => ?_)
            · have hf := ip c41 hf
              refine lv_aload_n hx hb dX3_sheet_60 rfl (lv_at hl 0 rfl) ?_
              refine va_get (D := E.1) (ci := 3) (v := .ref (a 8 1)) (C := RX3) (T := TX3) (N := 7) hx hb hts inX3 hown hE.2.1 hP 0 rfl rfl 5 (by decide) (hE.w tw_124) (fun _ h9 => h9) rfl dX3_sheet_61 ?_
              refine lv_iload_n hx hb dX3_sheet_64 rfl (lv_at hl 1 rfl) ?_
              obtain ⟨hg42, hf⟩ := gd_some hf
              have hk43 := vp_lt hg42
              refine va_aldq hx hb hE.2.1 hP 27 3 rfl rfl hg42 dX3_sheet_65 ?_
              refine W.eq (g2 := F0 m 66 ls [.ref (a (4 + p1.toNatClampNeg) 0)]) rfl ?_
              refine lv_iload_n hx hb dX3_sheet_66 rfl (lv_at hl 2 rfl) ?_
              refine lv_iload_n hx hb dX3_sheet_67 rfl (lv_at hl 3 rfl) ?_
              obtain ⟨s45, hc44, hf⟩ := bd1_some hf
              obtain ⟨n_46, en_46, hf⟩ := jn1_some hf
              refine cVN (w := (wX3 E a n)) (w' := (wX3 E a n_46)) (q0 := 0) lk_X3_161 hx hb hml hown hE hA (c_X1_layOut l E (a (4 + p1.toNatClampNeg)) ((g3_sheets n) (p1.toNatClampNeg)) p2 p3 s45 hc44) (wX3_spl E a _ hk43) (by rw [en_46]; exact wX3_spl' E a _ _ hk43) hP hD hS rfl rfl ⟨rfl, rfl, Nat.le_of_ble_eq_true rfl, Nat.le_of_ble_eq_true rfl⟩ hl.1 (As := [.int p2, .int p3]) (rest := []) rfl rfl (Nat.le_of_ble_eq_true rfl) ⟨Nat.zero_le _, Nat.zero_le _⟩ dX3_sheet_68 (fun H locs hP hD hS => ?_)
              refine W.eq (g2 := F0 m 71 ls []) rfl ?_
              refine lv_aload_n hx hb dX3_sheet_71 rfl (lv_at hl 0 rfl) ?_
              refine va_get (D := E.1) (ci := 3) (v := .ref (a 8 1)) (C := RX3) (T := TX3) (N := 7) hx hb hts inX3 hown hE.2.1 hP 0 rfl rfl 5 (by decide) (hE.w tw_124) (fun _ h9 => h9) rfl dX3_sheet_72 ?_
              refine lv_iload_n hx hb dX3_sheet_75 rfl (lv_at hl 1 rfl) ?_
              obtain ⟨hg47, hf⟩ := gd_some hf
              have hk48 := vp_lt hg47
              refine va_aldq hx hb hE.2.1 hP 27 3 rfl rfl hg47 dX3_sheet_76 ?_
              refine W.eq (g2 := F0 m 77 ls [.ref (a (4 + p1.toNatClampNeg) 0)]) rfl ?_
              refine va_getN (D := E.1) (ci := 1) (v := .int (g1_size ((g3_sheets n_46) (p1.toNatClampNeg)))) (C := RX1) (T := TX1) (N := 3) hx hb hts inX1 hown hE.2.1 hP (28 + 2 * p1.toNatClampNeg) (wX3_sh E a _ hk48) rfl 2 (by decide) (hE.w tw_110) (fun _ h9 => h9) rfl dX3_sheet_77 ?_
              obtain ⟨rfl, rfl⟩ := so2 hf
              exact rt_i hx hb hr hlocks hP hD hS dX3_sheet_80
            · have hf := im c41 hf
              refine lv_aload_n hx hb dX3_sheet_53 rfl (lv_at hl 0 rfl) ?_
              refine lv_ldc (v := (-1000000001 : Int32)) hx hb hown (hE.w tw_148) dX3_sheet_54 ?_
              obtain ⟨r50, n51, hc49, hf⟩ := bd2_some hf
              refine cV (X := List.take 0 (wX3 E a n)) (Y := List.drop 37 (wX3 E a n)) (w := (wX3 E a n)) (w' := (wX3 E a n51)) (q0 := 0) lk_X3_49 hx hb hml hown hE hA (c_X3_finding l E a n (-1000000001 : Int32) r50 n51 hc49) rfl rfl hP hD hS rfl rfl ⟨rfl, rfl, Nat.le_of_ble_eq_true rfl, Nat.le_of_ble_eq_true rfl⟩ hl.1 (As := [.int (-1000000001 : Int32)]) (rest := []) rfl rfl (Nat.le_of_ble_eq_true rfl) ⟨Nat.zero_le _, Nat.zero_le _⟩ dX3_sheet_56 (fun H locs hP hD hS => ?_)
              refine W.eq (g2 := F0 m 59 ls [.int r50]) rfl ?_
              obtain ⟨rfl, rfl⟩ := so2 hf
              exact rt_i hx hb hr hlocks hP hD hS dX3_sheet_59
          · have hf := im c40 hf
            refine lv_aload_n hx hb dX3_sheet_40 rfl (lv_at hl 0 rfl) ?_
            refine lv_ldc (v := (-1000000007 : Int32)) hx hb hown (hE.w tw_520) dX3_sheet_41 ?_
            obtain ⟨r53, n54, hc52, hf⟩ := bd2_some hf
            refine cV (X := List.take 0 (wX3 E a n)) (Y := List.drop 37 (wX3 E a n)) (w := (wX3 E a n)) (w' := (wX3 E a n54)) (q0 := 0) lk_X3_49 hx hb hml hown hE hA (c_X3_finding l E a n (-1000000007 : Int32) r53 n54 hc52) rfl rfl hP hD hS rfl rfl ⟨rfl, rfl, Nat.le_of_ble_eq_true rfl, Nat.le_of_ble_eq_true rfl⟩ hl.1 (As := [.int (-1000000007 : Int32)]) (rest := []) rfl rfl (Nat.le_of_ble_eq_true rfl) ⟨Nat.zero_le _, Nat.zero_le _⟩ dX3_sheet_43 (fun H locs hP hD hS => ?_)
            refine W.eq (g2 := F0 m 46 ls [.int r53]) rfl ?_
            obtain ⟨rfl, rfl⟩ := so2 hf
            exact rt_i hx hb hr hlocks hP hD hS dX3_sheet_46
        · have hf := im c39 hf
          refine lv_iload_n hx hb dX3_sheet_23 rfl (lv_at hl 2 rfl) ?_
          refine lv_bipush (v := (64 : Int32)) hx hb dX3_sheet_24 (by decide) ?_
          refine lv_icmp_eq (tgt := 36) hx hb dX3_sheet_26 (by decide) (fun c55 => ?_) (fun c55 => ?_)
          · have hf := ip c55 hf
            refine lv_iload_n hx hb dX3_sheet_36 rfl (lv_at hl 3 rfl) ?_
            refine lv_if_ge (tgt := 47) hx hb dX3_sheet_37 (by decide) (fun c56 => ?_) (fun c56 => ?_)
            · have hf := ip c56 hf
              refine lv_iload_n hx hb dX3_sheet_47 rfl (lv_at hl 3 rfl) ?_
              refine lv_bipush (v := (40 : Int32)) hx hb dX3_sheet_48 (by decide) ?_
              refine lv_icmp_le (tgt := 60) hx hb dX3_sheet_50 (by decide) (fun c57 => ?_) (fun c57 => ?_)
              · have hf := ip c57 hf
                refine lv_aload_n hx hb dX3_sheet_60 rfl (lv_at hl 0 rfl) ?_
                refine va_get (D := E.1) (ci := 3) (v := .ref (a 8 1)) (C := RX3) (T := TX3) (N := 7) hx hb hts inX3 hown hE.2.1 hP 0 rfl rfl 5 (by decide) (hE.w tw_124) (fun _ h9 => h9) rfl dX3_sheet_61 ?_
                refine lv_iload_n hx hb dX3_sheet_64 rfl (lv_at hl 1 rfl) ?_
                obtain ⟨hg58, hf⟩ := gd_some hf
                have hk59 := vp_lt hg58
                refine va_aldq hx hb hE.2.1 hP 27 3 rfl rfl hg58 dX3_sheet_65 ?_
                refine W.eq (g2 := F0 m 66 ls [.ref (a (4 + p1.toNatClampNeg) 0)]) rfl ?_
                refine lv_iload_n hx hb dX3_sheet_66 rfl (lv_at hl 2 rfl) ?_
                refine lv_iload_n hx hb dX3_sheet_67 rfl (lv_at hl 3 rfl) ?_
                obtain ⟨s61, hc60, hf⟩ := bd1_some hf
                obtain ⟨n_62, en_62, hf⟩ := jn1_some hf
                refine cVN (w := (wX3 E a n)) (w' := (wX3 E a n_62)) (q0 := 0) lk_X3_161 hx hb hml hown hE hA (c_X1_layOut l E (a (4 + p1.toNatClampNeg)) ((g3_sheets n) (p1.toNatClampNeg)) p2 p3 s61 hc60) (wX3_spl E a _ hk59) (by rw [en_62]; exact wX3_spl' E a _ _ hk59) hP hD hS rfl rfl ⟨rfl, rfl, Nat.le_of_ble_eq_true rfl, Nat.le_of_ble_eq_true rfl⟩ hl.1 (As := [.int p2, .int p3]) (rest := []) rfl rfl (Nat.le_of_ble_eq_true rfl) ⟨Nat.zero_le _, Nat.zero_le _⟩ dX3_sheet_68 (fun H locs hP hD hS => ?_)
                refine W.eq (g2 := F0 m 71 ls []) rfl ?_
                refine lv_aload_n hx hb dX3_sheet_71 rfl (lv_at hl 0 rfl) ?_
                refine va_get (D := E.1) (ci := 3) (v := .ref (a 8 1)) (C := RX3) (T := TX3) (N := 7) hx hb hts inX3 hown hE.2.1 hP 0 rfl rfl 5 (by decide) (hE.w tw_124) (fun _ h9 => h9) rfl dX3_sheet_72 ?_
                refine lv_iload_n hx hb dX3_sheet_75 rfl (lv_at hl 1 rfl) ?_
                obtain ⟨hg63, hf⟩ := gd_some hf
                have hk64 := vp_lt hg63
                refine va_aldq hx hb hE.2.1 hP 27 3 rfl rfl hg63 dX3_sheet_76 ?_
                refine W.eq (g2 := F0 m 77 ls [.ref (a (4 + p1.toNatClampNeg) 0)]) rfl ?_
                refine va_getN (D := E.1) (ci := 1) (v := .int (g1_size ((g3_sheets n_62) (p1.toNatClampNeg)))) (C := RX1) (T := TX1) (N := 3) hx hb hts inX1 hown hE.2.1 hP (28 + 2 * p1.toNatClampNeg) (wX3_sh E a _ hk64) rfl 2 (by decide) (hE.w tw_110) (fun _ h9 => h9) rfl dX3_sheet_77 ?_
                obtain ⟨rfl, rfl⟩ := so2 hf
                exact rt_i hx hb hr hlocks hP hD hS dX3_sheet_80
              · have hf := im c57 hf
                refine lv_aload_n hx hb dX3_sheet_53 rfl (lv_at hl 0 rfl) ?_
                refine lv_ldc (v := (-1000000001 : Int32)) hx hb hown (hE.w tw_148) dX3_sheet_54 ?_
                obtain ⟨r66, n67, hc65, hf⟩ := bd2_some hf
                refine cV (X := List.take 0 (wX3 E a n)) (Y := List.drop 37 (wX3 E a n)) (w := (wX3 E a n)) (w' := (wX3 E a n67)) (q0 := 0) lk_X3_49 hx hb hml hown hE hA (c_X3_finding l E a n (-1000000001 : Int32) r66 n67 hc65) rfl rfl hP hD hS rfl rfl ⟨rfl, rfl, Nat.le_of_ble_eq_true rfl, Nat.le_of_ble_eq_true rfl⟩ hl.1 (As := [.int (-1000000001 : Int32)]) (rest := []) rfl rfl (Nat.le_of_ble_eq_true rfl) ⟨Nat.zero_le _, Nat.zero_le _⟩ dX3_sheet_56 (fun H locs hP hD hS => ?_)
                refine W.eq (g2 := F0 m 59 ls [.int r66]) rfl ?_
                obtain ⟨rfl, rfl⟩ := so2 hf
                exact rt_i hx hb hr hlocks hP hD hS dX3_sheet_59
            · have hf := im c56 hf
              refine lv_aload_n hx hb dX3_sheet_40 rfl (lv_at hl 0 rfl) ?_
              refine lv_ldc (v := (-1000000007 : Int32)) hx hb hown (hE.w tw_520) dX3_sheet_41 ?_
              obtain ⟨r69, n70, hc68, hf⟩ := bd2_some hf
              refine cV (X := List.take 0 (wX3 E a n)) (Y := List.drop 37 (wX3 E a n)) (w := (wX3 E a n)) (w' := (wX3 E a n70)) (q0 := 0) lk_X3_49 hx hb hml hown hE hA (c_X3_finding l E a n (-1000000007 : Int32) r69 n70 hc68) rfl rfl hP hD hS rfl rfl ⟨rfl, rfl, Nat.le_of_ble_eq_true rfl, Nat.le_of_ble_eq_true rfl⟩ hl.1 (As := [.int (-1000000007 : Int32)]) (rest := []) rfl rfl (Nat.le_of_ble_eq_true rfl) ⟨Nat.zero_le _, Nat.zero_le _⟩ dX3_sheet_43 (fun H locs hP hD hS => ?_)
              refine W.eq (g2 := F0 m 46 ls [.int r69]) rfl ?_
              obtain ⟨rfl, rfl⟩ := so2 hf
              exact rt_i hx hb hr hlocks hP hD hS dX3_sheet_46
          · have hf := im c55 hf
            refine lv_aload_n hx hb dX3_sheet_29 rfl (lv_at hl 0 rfl) ?_
            refine lv_ldc (v := (-1000000001 : Int32)) hx hb hown (hE.w tw_148) dX3_sheet_30 ?_
            obtain ⟨r72, n73, hc71, hf⟩ := bd2_some hf
            refine cV (X := List.take 0 (wX3 E a n)) (Y := List.drop 37 (wX3 E a n)) (w := (wX3 E a n)) (w' := (wX3 E a n73)) (q0 := 0) lk_X3_49 hx hb hml hown hE hA (c_X3_finding l E a n (-1000000001 : Int32) r72 n73 hc71) rfl rfl hP hD hS rfl rfl ⟨rfl, rfl, Nat.le_of_ble_eq_true rfl, Nat.le_of_ble_eq_true rfl⟩ hl.1 (As := [.int (-1000000001 : Int32)]) (rest := []) rfl rfl (Nat.le_of_ble_eq_true rfl) ⟨Nat.zero_le _, Nat.zero_le _⟩ dX3_sheet_32 (fun H locs hP hD hS => ?_)
            refine W.eq (g2 := F0 m 35 ls [.int r72]) rfl ?_
            obtain ⟨rfl, rfl⟩ := so2 hf
            exact rt_i hx hb hr hlocks hP hD hS dX3_sheet_35
def f_X3_write (n : NS) (p1 : Int32) (p2 : Int32) (p3 : Int64) : Option (Int64 × NS) := bd1 (f_X3_isSheet p1) (fun r2 => if (bI r2) = 0 then bd2 (f_X3_finding n (-1000000001 : Int32)) (fun r23 n24 => some ((r23.toInt64), n24)) else gd p1 4 (bd1 (f_X1_isMissing ((g3_sheets n) (p1.toNatClampNeg))) (fun r7 => if (bI r7) = 0 then bd1 (f_X3_isIn p2 (0 : Int32) ((g1_size ((g3_sheets n) (p1.toNatClampNeg))) - (1 : Int32))) (fun r10 => if (bI r10) = 0 then bd2 (f_X3_finding n (-1000000001 : Int32)) (fun r17 n18 => some ((r17.toInt64), n18)) else gd p2 40 (bd1 (f_X1_put ((g3_sheets n) (p1.toNatClampNeg)) p2 p3) (fun s14 => jn1 (s3_sheets n (va_up (g3_sheets n) (p1.toNatClampNeg) s14)) (fun n_15 => some (((g1_row ((g3_sheets n) (p1.toNatClampNeg))) p2.toNatClampNeg), n_15))))) else bd2 (f_X3_finding n (-1000000006 : Int32)) (fun r20 n21 => some ((r20.toInt64), n21)))))
set_option maxHeartbeats 4000000 in
set_option maxRecDepth 100000 in
theorem c_X3_write (l : Launch) (E : EV) (a : Nat → Nat → Nat) (n : NS) (p1 : Int32) (p2 : Int32) (p3 : Int64)  (r : Int64) (n' : NS) (hf : f_X3_write n p1 p2 p3 = some (r, n')) : Ct l E yX3_write cX3_write 8 ((Option.some FieldType.long)) (rmk 2 42) [.ref ((a 8) 0), .int p1, .int p2, .long p3] (wX3 E a n) (wX3 E a n') (some (.long r)) := by
  refine Ct.of (by decide) (Nat.le_of_ble_eq_true rfl) ?_
  intro p e s m below meth c A ls hC hP hD hl
  obtain ⟨hx, hb, hr, hml, hown, hlocks, hE, hA⟩ := hC
  have hts : ∀ w ∈ tbl, w.before [.ref ((a 8) 0), .int p1, .int p2, .long p3].toArray s = true := fun w hw => hE.w hw
  have hS : va_S A s.heap s.heap [] := va_S.rf
  have hl : lv_has ls 8 [(0, .ref ((a 8) 0)), (1, .int p1), (2, .int p2), (3, .long p3)] := hl
  unfold f_X3_write at hf
  refine lv_iload_n hx hb dX3_write_0 rfl (lv_at hl 1 rfl) ?_
  obtain ⟨r2, hc1, hf⟩ := bd1_some hf
  refine cS (X := List.take 0 (wX3 E a n)) (Y := List.drop 0 (wX3 E a n)) (w := (wX3 E a n)) (w' := (wX3 E a n)) lk_X3_157 hx hb hml hown hE hA (c_X3_isSheet l E p1 r2 hc1) rfl rfl hP hD hS ⟨rfl, rfl, Nat.le_of_ble_eq_true rfl, Nat.le_of_ble_eq_true rfl⟩ hl.1 (As := [.int p1]) (rest := []) rfl rfl (Nat.le_of_ble_eq_true rfl) ⟨Nat.zero_le _, Nat.zero_le _⟩ dX3_write_1 (fun H locs hP hD hS => ?_)
  refine W.eq (g2 := F0 m 4 ls [.int (bI r2)]) rfl ?_
  refine lv_if_ne (tgt := 15) hx hb dX3_write_4 (by decide) (fun c3 => ?_) (fun c3 => ?_)
  · have hf := im c3 hf
    refine lv_aload_n hx hb dX3_write_15 rfl (lv_at hl 0 rfl) ?_
    refine va_get (D := E.1) (ci := 3) (v := .ref (a 8 1)) (C := RX3) (T := TX3) (N := 7) hx hb hts inX3 hown hE.2.1 hP 0 rfl rfl 5 (by decide) (hE.w tw_124) (fun _ h9 => h9) rfl dX3_write_16 ?_
    refine lv_iload_n hx hb dX3_write_19 rfl (lv_at hl 1 rfl) ?_
    obtain ⟨hg4, hf⟩ := gd_some hf
    have hk5 := vp_lt hg4
    refine va_aldq hx hb hE.2.1 hP 27 3 rfl rfl hg4 dX3_write_20 ?_
    refine W.eq (g2 := F0 m 21 ls [.ref (a (4 + p1.toNatClampNeg) 0)]) rfl ?_
    refine lv_astore (lv' := [(5, .ref (a (4 + p1.toNatClampNeg) 0)), (0, .ref ((a 8) 0)), (1, .int p1), (2, .int p2), (3, .long p3)]) hx hb dX3_write_21 hl (by decide) rfl (fun ls hl => ?_)
    refine lv_aload hx hb dX3_write_23 (lv_at hl 0 rfl) ?_
    obtain ⟨r7, hc6, hf⟩ := bd1_some hf
    refine cVN (w := (wX3 E a n)) (w' := (wX3 E a n)) (q0 := 0) lk_X3_167 hx hb hml hown hE hA (c_X1_isMissing l E (a (4 + p1.toNatClampNeg)) ((g3_sheets n) (p1.toNatClampNeg)) r7 hc6) (wX3_spl E a _ hk5) (wX3_spl E a _ hk5) hP hD hS rfl rfl ⟨rfl, rfl, Nat.le_of_ble_eq_true rfl, Nat.le_of_ble_eq_true rfl⟩ hl.1 (As := []) (rest := []) rfl rfl (Nat.le_of_ble_eq_true rfl) ⟨Nat.zero_le _, Nat.zero_le _⟩ dX3_write_25 (fun H locs hP hD hS => ?_)
    refine W.eq (g2 := F0 m 28 ls [.int (bI r7)]) rfl ?_
    refine lv_if_eq (tgt := 39) hx hb dX3_write_28 (by decide) (fun c8 => ?_) (fun c8 => ?_)
    · have hf := ip c8 hf
      refine lv_iload_n hx hb dX3_write_39 rfl (lv_at hl 3 rfl) ?_
      refine lv_iconst (v := (0 : Int32)) hx hb dX3_write_40 (by decide) ?_
      refine lv_aload hx hb dX3_write_41 (lv_at hl 0 rfl) ?_
      refine va_getN (D := E.1) (ci := 1) (v := .int (g1_size ((g3_sheets n) (p1.toNatClampNeg)))) (C := RX1) (T := TX1) (N := 3) hx hb hts inX1 hown hE.2.1 hP (28 + 2 * p1.toNatClampNeg) (wX3_sh E a _ hk5) rfl 2 (by decide) (hE.w tw_110) (fun _ h9 => h9) rfl dX3_write_43 ?_
      refine lv_iconst (v := (1 : Int32)) hx hb dX3_write_46 (by decide) ?_
      refine lv_isub hx hb dX3_write_47 ?_
      obtain ⟨r10, hc9, hf⟩ := bd1_some hf
      refine cS (X := List.take 0 (wX3 E a n)) (Y := List.drop 0 (wX3 E a n)) (w := (wX3 E a n)) (w' := (wX3 E a n)) lk_X3_44 hx hb hml hown hE hA (c_X3_isIn l E p2 (0 : Int32) ((g1_size ((g3_sheets n) (p1.toNatClampNeg))) - (1 : Int32)) r10 hc9) rfl rfl hP hD hS ⟨rfl, rfl, Nat.le_of_ble_eq_true rfl, Nat.le_of_ble_eq_true rfl⟩ hl.1 (As := [.int p2, .int (0 : Int32), .int ((g1_size ((g3_sheets n) (p1.toNatClampNeg))) - (1 : Int32))]) (rest := []) rfl rfl (Nat.le_of_ble_eq_true rfl) ⟨Nat.zero_le _, Nat.zero_le _⟩ dX3_write_48 (fun H locs hP hD hS => ?_)
      refine W.eq (g2 := F0 m 51 ls [.int (bI r10)]) rfl ?_
      refine lv_if_ne (tgt := 62) hx hb dX3_write_51 (by decide) (fun c11 => ?_) (fun c11 => ?_)
      · have hf := im c11 hf
        refine lv_aload hx hb dX3_write_62 (lv_at hl 0 rfl) ?_
        refine va_getN (D := E.1) (ci := 1) (v := .ref ((a (4 + p1.toNatClampNeg)) 1)) (C := RX1) (T := TX1) (N := 3) hx hb hts inX1 hown hE.2.1 hP (28 + 2 * p1.toNatClampNeg) (wX3_sh E a _ hk5) rfl 0 (by decide) (hE.w tw_106) (fun _ h9 => h9) rfl dX3_write_64 ?_
        refine lv_iload_n hx hb dX3_write_67 rfl (lv_at hl 3 rfl) ?_
        obtain ⟨hg12, hf⟩ := gd_some hf
        refine va_lald hx hb hE.2.1 hP (29 + 2 * p1.toNatClampNeg) 1 (wX3_row E a _ hk5) rfl hg12 dX3_write_68 ?_
        refine lv_lstore (lv' := [(6, .long ((g1_row ((g3_sheets n) (p1.toNatClampNeg))) p2.toNatClampNeg)), (5, .ref (a (4 + p1.toNatClampNeg) 0)), (0, .ref ((a 8) 0)), (1, .int p1), (2, .int p2), (3, .long p3)]) hx hb dX3_write_69 hl (by decide) rfl (fun ls hl => ?_)
        refine lv_aload hx hb dX3_write_71 (lv_at hl 1 rfl) ?_
        refine lv_iload_n hx hb dX3_write_73 rfl (lv_at hl 4 rfl) ?_
        refine lv_lload_n hx hb dX3_write_74 rfl (lv_at hl 5 rfl) ?_
        obtain ⟨s14, hc13, hf⟩ := bd1_some hf
        obtain ⟨n_15, en_15, hf⟩ := jn1_some hf
        refine cVN (w := (wX3 E a n)) (w' := (wX3 E a n_15)) (q0 := 0) lk_X3_176 hx hb hml hown hE hA (c_X1_put l E (a (4 + p1.toNatClampNeg)) ((g3_sheets n) (p1.toNatClampNeg)) p2 p3 s14 hc13) (wX3_spl E a _ hk5) (by rw [en_15]; exact wX3_spl' E a _ _ hk5) hP hD hS rfl rfl ⟨rfl, rfl, Nat.le_of_ble_eq_true rfl, Nat.le_of_ble_eq_true rfl⟩ hl.1 (As := [.int p2, .long p3]) (rest := []) rfl rfl (Nat.le_of_ble_eq_true rfl) ⟨Nat.zero_le _, Nat.zero_le _⟩ dX3_write_75 (fun H locs hP hD hS => ?_)
        refine W.eq (g2 := F0 m 78 ls []) rfl ?_
        refine lv_lload hx hb dX3_write_78 (lv_at hl 0 rfl) ?_
        obtain ⟨rfl, rfl⟩ := so2 hf
        exact rt_l hx hb hr hlocks hP hD hS dX3_write_80
      · have hf := ip c11 hf
        refine lv_aload_n hx hb dX3_write_54 rfl (lv_at hl 1 rfl) ?_
        refine lv_ldc (v := (-1000000001 : Int32)) hx hb hown (hE.w tw_148) dX3_write_55 ?_
        obtain ⟨r17, n18, hc16, hf⟩ := bd2_some hf
        refine cV (X := List.take 0 (wX3 E a n)) (Y := List.drop 37 (wX3 E a n)) (w := (wX3 E a n)) (w' := (wX3 E a n18)) (q0 := 0) lk_X3_49 hx hb hml hown hE hA (c_X3_finding l E a n (-1000000001 : Int32) r17 n18 hc16) rfl rfl hP hD hS rfl rfl ⟨rfl, rfl, Nat.le_of_ble_eq_true rfl, Nat.le_of_ble_eq_true rfl⟩ hl.1 (As := [.int (-1000000001 : Int32)]) (rest := []) rfl rfl (Nat.le_of_ble_eq_true rfl) ⟨Nat.zero_le _, Nat.zero_le _⟩ dX3_write_57 (fun H locs hP hD hS => ?_)
        refine W.eq (g2 := F0 m 60 ls [.int r17]) rfl ?_
        refine lv_i2l (v := (r17.toInt64)) hx hb dX3_write_60 rfl ?_
        obtain ⟨rfl, rfl⟩ := so2 hf
        exact rt_l hx hb hr hlocks hP hD hS dX3_write_61
    · have hf := im c8 hf
      refine lv_aload_n hx hb dX3_write_31 rfl (lv_at hl 1 rfl) ?_
      refine lv_ldc (v := (-1000000006 : Int32)) hx hb hown (hE.w tw_533) dX3_write_32 ?_
      obtain ⟨r20, n21, hc19, hf⟩ := bd2_some hf
      refine cV (X := List.take 0 (wX3 E a n)) (Y := List.drop 37 (wX3 E a n)) (w := (wX3 E a n)) (w' := (wX3 E a n21)) (q0 := 0) lk_X3_49 hx hb hml hown hE hA (c_X3_finding l E a n (-1000000006 : Int32) r20 n21 hc19) rfl rfl hP hD hS rfl rfl ⟨rfl, rfl, Nat.le_of_ble_eq_true rfl, Nat.le_of_ble_eq_true rfl⟩ hl.1 (As := [.int (-1000000006 : Int32)]) (rest := []) rfl rfl (Nat.le_of_ble_eq_true rfl) ⟨Nat.zero_le _, Nat.zero_le _⟩ dX3_write_34 (fun H locs hP hD hS => ?_)
      refine W.eq (g2 := F0 m 37 ls [.int r20]) rfl ?_
      refine lv_i2l (v := (r20.toInt64)) hx hb dX3_write_37 rfl ?_
      obtain ⟨rfl, rfl⟩ := so2 hf
      exact rt_l hx hb hr hlocks hP hD hS dX3_write_38
  · have hf := ip c3 hf
    refine lv_aload_n hx hb dX3_write_7 rfl (lv_at hl 0 rfl) ?_
    refine lv_ldc (v := (-1000000001 : Int32)) hx hb hown (hE.w tw_148) dX3_write_8 ?_
    obtain ⟨r23, n24, hc22, hf⟩ := bd2_some hf
    refine cV (X := List.take 0 (wX3 E a n)) (Y := List.drop 37 (wX3 E a n)) (w := (wX3 E a n)) (w' := (wX3 E a n24)) (q0 := 0) lk_X3_49 hx hb hml hown hE hA (c_X3_finding l E a n (-1000000001 : Int32) r23 n24 hc22) rfl rfl hP hD hS rfl rfl ⟨rfl, rfl, Nat.le_of_ble_eq_true rfl, Nat.le_of_ble_eq_true rfl⟩ hl.1 (As := [.int (-1000000001 : Int32)]) (rest := []) rfl rfl (Nat.le_of_ble_eq_true rfl) ⟨Nat.zero_le _, Nat.zero_le _⟩ dX3_write_10 (fun H locs hP hD hS => ?_)
    refine W.eq (g2 := F0 m 13 ls [.int r23]) rfl ?_
    refine lv_i2l (v := (r23.toInt64)) hx hb dX3_write_13 rfl ?_
    obtain ⟨rfl, rfl⟩ := so2 hf
    exact rt_l hx hb hr hlocks hP hD hS dX3_write_14
def f_X3_copy (n : NS) (p1 : Int32) (p2 : Int32) (p3 : Int32) (p4 : Int32) (p5 : Int32) : Option (Int32 × NS) := bd1 (f_X3_isSheet p1) (fun r2 => if (bI r2) = 0 then bd2 (f_X3_finding n (-1000000001 : Int32)) (fun r5 n6 => some (r5, n6)) else bd1 (f_X3_isSheet p3) (fun r8 => if (bI r8) = 0 then bd2 (f_X3_finding n (-1000000001 : Int32)) (fun r45 n46 => some (r45, n46)) else gd p1 4 (gd p3 4 (bd1 (f_X1_isMissing ((g3_sheets n) (p1.toNatClampNeg))) (fun r15 => if (bI r15) = 0 then bd1 (f_X1_isMissing ((g3_sheets n) (p3.toNatClampNeg))) (fun r21 => if (bI r21) = 0 then if (g1_bits ((g3_sheets n) (p1.toNatClampNeg))) = (g1_bits ((g3_sheets n) (p3.toNatClampNeg))) then bd1 (f_X1_has ((g3_sheets n) (p1.toNatClampNeg)) p2 p5) (fun r25 => if (bI r25) = 0 then bd2 (f_X3_finding n (-1000000001 : Int32)) (fun r28 n29 => some (r28, n29)) else bd1 (f_X1_has ((g3_sheets n) (p3.toNatClampNeg)) p4 p5) (fun r31 => if (bI r31) = 0 then bd2 (f_X3_finding n (-1000000001 : Int32)) (fun r36 n37 => some (r36, n37)) else gc p2 p4 p5 40 40 (jn1 (s3_sheets n (va_up (g3_sheets n) (p3.toNatClampNeg) (s1_row ((g3_sheets n) (p3.toNatClampNeg)) (va_cpy (g1_row ((g3_sheets n) (p1.toNatClampNeg))) (g1_row ((g3_sheets n) (p3.toNatClampNeg))) p2.toNatClampNeg p4.toNatClampNeg p5.toNatClampNeg)))) (fun n_34 => some (p5, n_34))))) else bd2 (f_X3_finding n (-1000000003 : Int32)) (fun r39 n40 => some (r39, n40)) else bd2 (f_X3_finding n (-1000000006 : Int32)) (fun r42 n43 => some (r42, n43))) else bd2 (f_X3_finding n (-1000000006 : Int32)) (fun r18 n19 => some (r18, n19)))))))
set_option maxHeartbeats 4000000 in
set_option maxRecDepth 100000 in
theorem c_X3_copy (l : Launch) (E : EV) (a : Nat → Nat → Nat) (n : NS) (p1 : Int32) (p2 : Int32) (p3 : Int32) (p4 : Int32) (p5 : Int32)  (r : Int32) (n' : NS) (hf : f_X3_copy n p1 p2 p3 p4 p5 = some (r, n')) : Ct l E yX3_copy cX3_copy 8 ((Option.some FieldType.int)) (rmk 2 42) [.ref ((a 8) 0), .int p1, .int p2, .int p3, .int p4, .int p5] (wX3 E a n) (wX3 E a n') (some (.int r)) := by
  refine Ct.of (by decide) (Nat.le_of_ble_eq_true rfl) ?_
  intro p e s m below meth c A ls hC hP hD hl
  obtain ⟨hx, hb, hr, hml, hown, hlocks, hE, hA⟩ := hC
  have hts : ∀ w ∈ tbl, w.before [.ref ((a 8) 0), .int p1, .int p2, .int p3, .int p4, .int p5].toArray s = true := fun w hw => hE.w hw
  have hS : va_S A s.heap s.heap [] := va_S.rf
  have hl : lv_has ls 8 [(0, .ref ((a 8) 0)), (1, .int p1), (2, .int p2), (3, .int p3), (4, .int p4), (5, .int p5)] := hl
  unfold f_X3_copy at hf
  refine lv_iload_n hx hb dX3_copy_0 rfl (lv_at hl 1 rfl) ?_
  obtain ⟨r2, hc1, hf⟩ := bd1_some hf
  refine cS (X := List.take 0 (wX3 E a n)) (Y := List.drop 0 (wX3 E a n)) (w := (wX3 E a n)) (w' := (wX3 E a n)) lk_X3_157 hx hb hml hown hE hA (c_X3_isSheet l E p1 r2 hc1) rfl rfl hP hD hS ⟨rfl, rfl, Nat.le_of_ble_eq_true rfl, Nat.le_of_ble_eq_true rfl⟩ hl.1 (As := [.int p1]) (rest := []) rfl rfl (Nat.le_of_ble_eq_true rfl) ⟨Nat.zero_le _, Nat.zero_le _⟩ dX3_copy_1 (fun H locs hP hD hS => ?_)
  refine W.eq (g2 := F0 m 4 ls [.int (bI r2)]) rfl ?_
  refine lv_if_eq (tgt := 14) hx hb dX3_copy_4 (by decide) (fun c3 => ?_) (fun c3 => ?_)
  · have hf := ip c3 hf
    refine lv_aload_n hx hb dX3_copy_14 rfl (lv_at hl 0 rfl) ?_
    refine lv_ldc (v := (-1000000001 : Int32)) hx hb hown (hE.w tw_148) dX3_copy_15 ?_
    obtain ⟨r5, n6, hc4, hf⟩ := bd2_some hf
    refine cV (X := List.take 0 (wX3 E a n)) (Y := List.drop 37 (wX3 E a n)) (w := (wX3 E a n)) (w' := (wX3 E a n6)) (q0 := 0) lk_X3_49 hx hb hml hown hE hA (c_X3_finding l E a n (-1000000001 : Int32) r5 n6 hc4) rfl rfl hP hD hS rfl rfl ⟨rfl, rfl, Nat.le_of_ble_eq_true rfl, Nat.le_of_ble_eq_true rfl⟩ hl.1 (As := [.int (-1000000001 : Int32)]) (rest := []) rfl rfl (Nat.le_of_ble_eq_true rfl) ⟨Nat.zero_le _, Nat.zero_le _⟩ dX3_copy_17 (fun H locs hP hD hS => ?_)
    refine W.eq (g2 := F0 m 20 ls [.int r5]) rfl ?_
    obtain ⟨rfl, rfl⟩ := so2 hf
    exact rt_i hx hb hr hlocks hP hD hS dX3_copy_20
  · have hf := im c3 hf
    refine lv_iload_n hx hb dX3_copy_7 rfl (lv_at hl 3 rfl) ?_
    obtain ⟨r8, hc7, hf⟩ := bd1_some hf
    refine cS (X := List.take 0 (wX3 E a n)) (Y := List.drop 0 (wX3 E a n)) (w := (wX3 E a n)) (w' := (wX3 E a n)) lk_X3_157 hx hb hml hown hE hA (c_X3_isSheet l E p3 r8 hc7) rfl rfl hP hD hS ⟨rfl, rfl, Nat.le_of_ble_eq_true rfl, Nat.le_of_ble_eq_true rfl⟩ hl.1 (As := [.int p3]) (rest := []) rfl rfl (Nat.le_of_ble_eq_true rfl) ⟨Nat.zero_le _, Nat.zero_le _⟩ dX3_copy_8 (fun H locs hP hD hS => ?_)
    refine W.eq (g2 := F0 m 11 ls [.int (bI r8)]) rfl ?_
    refine lv_if_ne (tgt := 21) hx hb dX3_copy_11 (by decide) (fun c9 => ?_) (fun c9 => ?_)
    · have hf := im c9 hf
      refine lv_aload_n hx hb dX3_copy_21 rfl (lv_at hl 0 rfl) ?_
      refine va_get (D := E.1) (ci := 3) (v := .ref (a 8 1)) (C := RX3) (T := TX3) (N := 7) hx hb hts inX3 hown hE.2.1 hP 0 rfl rfl 5 (by decide) (hE.w tw_124) (fun _ h9 => h9) rfl dX3_copy_22 ?_
      refine lv_iload_n hx hb dX3_copy_25 rfl (lv_at hl 1 rfl) ?_
      obtain ⟨hg10, hf⟩ := gd_some hf
      have hk11 := vp_lt hg10
      refine va_aldq hx hb hE.2.1 hP 27 3 rfl rfl hg10 dX3_copy_26 ?_
      refine W.eq (g2 := F0 m 27 ls [.ref (a (4 + p1.toNatClampNeg) 0)]) rfl ?_
      refine lv_astore (lv' := [(6, .ref (a (4 + p1.toNatClampNeg) 0)), (0, .ref ((a 8) 0)), (1, .int p1), (2, .int p2), (3, .int p3), (4, .int p4), (5, .int p5)]) hx hb dX3_copy_27 hl (by decide) rfl (fun ls hl => ?_)
      refine lv_aload_n hx hb dX3_copy_29 rfl (lv_at hl 1 rfl) ?_
      refine va_get (D := E.1) (ci := 3) (v := .ref (a 8 1)) (C := RX3) (T := TX3) (N := 7) hx hb hts inX3 hown hE.2.1 hP 0 rfl rfl 5 (by decide) (hE.w tw_124) (fun _ h9 => h9) rfl dX3_copy_30 ?_
      refine lv_iload_n hx hb dX3_copy_33 rfl (lv_at hl 4 rfl) ?_
      obtain ⟨hg12, hf⟩ := gd_some hf
      have hk13 := vp_lt hg12
      refine va_aldq hx hb hE.2.1 hP 27 3 rfl rfl hg12 dX3_copy_34 ?_
      refine W.eq (g2 := F0 m 35 ls [.ref (a (4 + p3.toNatClampNeg) 0)]) rfl ?_
      refine lv_astore (lv' := [(7, .ref (a (4 + p3.toNatClampNeg) 0)), (6, .ref (a (4 + p1.toNatClampNeg) 0)), (0, .ref ((a 8) 0)), (1, .int p1), (2, .int p2), (3, .int p3), (4, .int p4), (5, .int p5)]) hx hb dX3_copy_35 hl (by decide) rfl (fun ls hl => ?_)
      refine lv_aload hx hb dX3_copy_37 (lv_at hl 1 rfl) ?_
      obtain ⟨r15, hc14, hf⟩ := bd1_some hf
      refine cVN (w := (wX3 E a n)) (w' := (wX3 E a n)) (q0 := 0) lk_X3_167 hx hb hml hown hE hA (c_X1_isMissing l E (a (4 + p1.toNatClampNeg)) ((g3_sheets n) (p1.toNatClampNeg)) r15 hc14) (wX3_spl E a _ hk11) (wX3_spl E a _ hk11) hP hD hS rfl rfl ⟨rfl, rfl, Nat.le_of_ble_eq_true rfl, Nat.le_of_ble_eq_true rfl⟩ hl.1 (As := []) (rest := []) rfl rfl (Nat.le_of_ble_eq_true rfl) ⟨Nat.zero_le _, Nat.zero_le _⟩ dX3_copy_39 (fun H locs hP hD hS => ?_)
      refine W.eq (g2 := F0 m 42 ls [.int (bI r15)]) rfl ?_
      refine lv_if_ne (tgt := 53) hx hb dX3_copy_42 (by decide) (fun c16 => ?_) (fun c16 => ?_)
      · have hf := im c16 hf
        refine lv_aload_n hx hb dX3_copy_53 rfl (lv_at hl 2 rfl) ?_
        refine lv_ldc (v := (-1000000006 : Int32)) hx hb hown (hE.w tw_533) dX3_copy_54 ?_
        obtain ⟨r18, n19, hc17, hf⟩ := bd2_some hf
        refine cV (X := List.take 0 (wX3 E a n)) (Y := List.drop 37 (wX3 E a n)) (w := (wX3 E a n)) (w' := (wX3 E a n19)) (q0 := 0) lk_X3_49 hx hb hml hown hE hA (c_X3_finding l E a n (-1000000006 : Int32) r18 n19 hc17) rfl rfl hP hD hS rfl rfl ⟨rfl, rfl, Nat.le_of_ble_eq_true rfl, Nat.le_of_ble_eq_true rfl⟩ hl.1 (As := [.int (-1000000006 : Int32)]) (rest := []) rfl rfl (Nat.le_of_ble_eq_true rfl) ⟨Nat.zero_le _, Nat.zero_le _⟩ dX3_copy_56 (fun H locs hP hD hS => ?_)
        refine W.eq (g2 := F0 m 59 ls [.int r18]) rfl ?_
        obtain ⟨rfl, rfl⟩ := so2 hf
        exact rt_i hx hb hr hlocks hP hD hS dX3_copy_59
      · have hf := ip c16 hf
        refine lv_aload hx hb dX3_copy_45 (lv_at hl 0 rfl) ?_
        obtain ⟨r21, hc20, hf⟩ := bd1_some hf
        refine cVN (w := (wX3 E a n)) (w' := (wX3 E a n)) (q0 := 0) lk_X3_167 hx hb hml hown hE hA (c_X1_isMissing l E (a (4 + p3.toNatClampNeg)) ((g3_sheets n) (p3.toNatClampNeg)) r21 hc20) (wX3_spl E a _ hk13) (wX3_spl E a _ hk13) hP hD hS rfl rfl ⟨rfl, rfl, Nat.le_of_ble_eq_true rfl, Nat.le_of_ble_eq_true rfl⟩ hl.1 (As := []) (rest := []) rfl rfl (Nat.le_of_ble_eq_true rfl) ⟨Nat.zero_le _, Nat.zero_le _⟩ dX3_copy_47 (fun H locs hP hD hS => ?_)
        refine W.eq (g2 := F0 m 50 ls [.int (bI r21)]) rfl ?_
        refine lv_if_eq (tgt := 60) hx hb dX3_copy_50 (by decide) (fun c22 => ?_) (fun c22 => ?_)
        · have hf := ip c22 hf
          refine lv_aload hx hb dX3_copy_60 (lv_at hl 1 rfl) ?_
          refine va_getN (D := E.1) (ci := 1) (v := .int (g1_bits ((g3_sheets n) (p1.toNatClampNeg)))) (C := RX1) (T := TX1) (N := 3) hx hb hts inX1 hown hE.2.1 hP (28 + 2 * p1.toNatClampNeg) (wX3_sh E a _ hk11) rfl 1 (by decide) (hE.w tw_108) (fun _ h9 => h9) rfl dX3_copy_62 ?_
          refine lv_aload hx hb dX3_copy_65 (lv_at hl 0 rfl) ?_
          refine va_getN (D := E.1) (ci := 1) (v := .int (g1_bits ((g3_sheets n) (p3.toNatClampNeg)))) (C := RX1) (T := TX1) (N := 3) hx hb hts inX1 hown hE.2.1 hP (28 + 2 * p3.toNatClampNeg) (wX3_sh E a _ hk13) rfl 1 (by decide) (hE.w tw_108) (fun _ h9 => h9) rfl dX3_copy_67 ?_
          refine lv_icmp_eq (tgt := 80) hx hb dX3_copy_70 (by decide) (fun c23 => ?_) (fun c23 => ?_)
          · have hf := ip c23 hf
            refine lv_aload hx hb dX3_copy_80 (lv_at hl 1 rfl) ?_
            refine lv_iload_n hx hb dX3_copy_82 rfl (lv_at hl 4 rfl) ?_
            refine lv_iload hx hb dX3_copy_83 (lv_at hl 7 rfl) ?_
            obtain ⟨r25, hc24, hf⟩ := bd1_some hf
            refine cVN (w := (wX3 E a n)) (w' := (wX3 E a n)) (q0 := 0) lk_X3_183 hx hb hml hown hE hA (c_X1_has l E (a (4 + p1.toNatClampNeg)) ((g3_sheets n) (p1.toNatClampNeg)) p2 p5 r25 hc24) (wX3_spl E a _ hk11) (wX3_spl E a _ hk11) hP hD hS rfl rfl ⟨rfl, rfl, Nat.le_of_ble_eq_true rfl, Nat.le_of_ble_eq_true rfl⟩ hl.1 (As := [.int p2, .int p5]) (rest := []) rfl rfl (Nat.le_of_ble_eq_true rfl) ⟨Nat.zero_le _, Nat.zero_le _⟩ dX3_copy_85 (fun H locs hP hD hS => ?_)
            refine W.eq (g2 := F0 m 88 ls [.int (bI r25)]) rfl ?_
            refine lv_if_eq (tgt := 103) hx hb dX3_copy_88 (by decide) (fun c26 => ?_) (fun c26 => ?_)
            · have hf := ip c26 hf
              refine lv_aload_n hx hb dX3_copy_103 rfl (lv_at hl 2 rfl) ?_
              refine lv_ldc (v := (-1000000001 : Int32)) hx hb hown (hE.w tw_148) dX3_copy_104 ?_
              obtain ⟨r28, n29, hc27, hf⟩ := bd2_some hf
              refine cV (X := List.take 0 (wX3 E a n)) (Y := List.drop 37 (wX3 E a n)) (w := (wX3 E a n)) (w' := (wX3 E a n29)) (q0 := 0) lk_X3_49 hx hb hml hown hE hA (c_X3_finding l E a n (-1000000001 : Int32) r28 n29 hc27) rfl rfl hP hD hS rfl rfl ⟨rfl, rfl, Nat.le_of_ble_eq_true rfl, Nat.le_of_ble_eq_true rfl⟩ hl.1 (As := [.int (-1000000001 : Int32)]) (rest := []) rfl rfl (Nat.le_of_ble_eq_true rfl) ⟨Nat.zero_le _, Nat.zero_le _⟩ dX3_copy_106 (fun H locs hP hD hS => ?_)
              refine W.eq (g2 := F0 m 109 ls [.int r28]) rfl ?_
              obtain ⟨rfl, rfl⟩ := so2 hf
              exact rt_i hx hb hr hlocks hP hD hS dX3_copy_109
            · have hf := im c26 hf
              refine lv_aload hx hb dX3_copy_91 (lv_at hl 0 rfl) ?_
              refine lv_iload hx hb dX3_copy_93 (lv_at hl 6 rfl) ?_
              refine lv_iload hx hb dX3_copy_95 (lv_at hl 7 rfl) ?_
              obtain ⟨r31, hc30, hf⟩ := bd1_some hf
              refine cVN (w := (wX3 E a n)) (w' := (wX3 E a n)) (q0 := 0) lk_X3_183 hx hb hml hown hE hA (c_X1_has l E (a (4 + p3.toNatClampNeg)) ((g3_sheets n) (p3.toNatClampNeg)) p4 p5 r31 hc30) (wX3_spl E a _ hk13) (wX3_spl E a _ hk13) hP hD hS rfl rfl ⟨rfl, rfl, Nat.le_of_ble_eq_true rfl, Nat.le_of_ble_eq_true rfl⟩ hl.1 (As := [.int p4, .int p5]) (rest := []) rfl rfl (Nat.le_of_ble_eq_true rfl) ⟨Nat.zero_le _, Nat.zero_le _⟩ dX3_copy_97 (fun H locs hP hD hS => ?_)
              refine W.eq (g2 := F0 m 100 ls [.int (bI r31)]) rfl ?_
              refine lv_if_ne (tgt := 110) hx hb dX3_copy_100 (by decide) (fun c32 => ?_) (fun c32 => ?_)
              · have hf := im c32 hf
                refine lv_aload hx hb dX3_copy_110 (lv_at hl 1 rfl) ?_
                refine va_getN (D := E.1) (ci := 1) (v := .ref ((a (4 + p1.toNatClampNeg)) 1)) (C := RX1) (T := TX1) (N := 3) hx hb hts inX1 hown hE.2.1 hP (28 + 2 * p1.toNatClampNeg) (wX3_sh E a _ hk11) rfl 0 (by decide) (hE.w tw_106) (fun _ h9 => h9) rfl dX3_copy_112 ?_
                refine lv_iload_n hx hb dX3_copy_115 rfl (lv_at hl 4 rfl) ?_
                refine lv_aload hx hb dX3_copy_116 (lv_at hl 0 rfl) ?_
                refine va_getN (D := E.1) (ci := 1) (v := .ref ((a (4 + p3.toNatClampNeg)) 1)) (C := RX1) (T := TX1) (N := 3) hx hb hts inX1 hown hE.2.1 hP (28 + 2 * p3.toNatClampNeg) (wX3_sh E a _ hk13) rfl 0 (by decide) (hE.w tw_106) (fun _ h9 => h9) rfl dX3_copy_118 ?_
                refine lv_iload hx hb dX3_copy_121 (lv_at hl 6 rfl) ?_
                refine lv_iload hx hb dX3_copy_123 (lv_at hl 7 rfl) ?_
                obtain ⟨⟨hg33a, hg33b, hg33c, hg33d, hg33e⟩, hf⟩ := gc_some hf
                obtain ⟨n_34, en_34, hf⟩ := jn1_some hf
                refine va_copyl (ty := .long) hx hb (hml.trans hl.1.symm) hown (hE.w tw_546) (hE.w tw_300) (hE.w tw_299) (hE.w tw_7) hE.2.1 hP hD hS (29 + 2 * p1.toNatClampNeg) (29 + 2 * p3.toNatClampNeg) 1 1 (wX3_row E a _ hk11) (wX3_row E a _ hk13) rfl rfl rfl hg33a hg33b hg33c hg33d hg33e (fun _ _ => rfl) (Nat.le_of_ble_eq_true rfl) (by decide +kernel) dX3_copy_125 (fun H locs hP hD hS => ?_)
                have hP : va_P E.1 vwCl (wX3 E a n_34) H := wst (by rw [en_34]; exact wX3_cpy E a _ _ hk13) hP
                have hD : va_D A (wX3 E a n_34) := wsd (by rw [en_34]; exact wX3_cpy E a _ _ hk13) hD
                refine lv_iload hx hb dX3_copy_128 (lv_at hl 7 rfl) ?_
                obtain ⟨rfl, rfl⟩ := so2 hf
                exact rt_i hx hb hr hlocks hP hD hS dX3_copy_130
              · have hf := ip c32 hf
                refine lv_aload_n hx hb dX3_copy_103 rfl (lv_at hl 2 rfl) ?_
                refine lv_ldc (v := (-1000000001 : Int32)) hx hb hown (hE.w tw_148) dX3_copy_104 ?_
                obtain ⟨r36, n37, hc35, hf⟩ := bd2_some hf
                refine cV (X := List.take 0 (wX3 E a n)) (Y := List.drop 37 (wX3 E a n)) (w := (wX3 E a n)) (w' := (wX3 E a n37)) (q0 := 0) lk_X3_49 hx hb hml hown hE hA (c_X3_finding l E a n (-1000000001 : Int32) r36 n37 hc35) rfl rfl hP hD hS rfl rfl ⟨rfl, rfl, Nat.le_of_ble_eq_true rfl, Nat.le_of_ble_eq_true rfl⟩ hl.1 (As := [.int (-1000000001 : Int32)]) (rest := []) rfl rfl (Nat.le_of_ble_eq_true rfl) ⟨Nat.zero_le _, Nat.zero_le _⟩ dX3_copy_106 (fun H locs hP hD hS => ?_)
                refine W.eq (g2 := F0 m 109 ls [.int r36]) rfl ?_
                obtain ⟨rfl, rfl⟩ := so2 hf
                exact rt_i hx hb hr hlocks hP hD hS dX3_copy_109
          · have hf := im c23 hf
            refine lv_aload_n hx hb dX3_copy_73 rfl (lv_at hl 2 rfl) ?_
            refine lv_ldc (v := (-1000000003 : Int32)) hx hb hown (hE.w tw_249) dX3_copy_74 ?_
            obtain ⟨r39, n40, hc38, hf⟩ := bd2_some hf
            refine cV (X := List.take 0 (wX3 E a n)) (Y := List.drop 37 (wX3 E a n)) (w := (wX3 E a n)) (w' := (wX3 E a n40)) (q0 := 0) lk_X3_49 hx hb hml hown hE hA (c_X3_finding l E a n (-1000000003 : Int32) r39 n40 hc38) rfl rfl hP hD hS rfl rfl ⟨rfl, rfl, Nat.le_of_ble_eq_true rfl, Nat.le_of_ble_eq_true rfl⟩ hl.1 (As := [.int (-1000000003 : Int32)]) (rest := []) rfl rfl (Nat.le_of_ble_eq_true rfl) ⟨Nat.zero_le _, Nat.zero_le _⟩ dX3_copy_76 (fun H locs hP hD hS => ?_)
            refine W.eq (g2 := F0 m 79 ls [.int r39]) rfl ?_
            obtain ⟨rfl, rfl⟩ := so2 hf
            exact rt_i hx hb hr hlocks hP hD hS dX3_copy_79
        · have hf := im c22 hf
          refine lv_aload_n hx hb dX3_copy_53 rfl (lv_at hl 2 rfl) ?_
          refine lv_ldc (v := (-1000000006 : Int32)) hx hb hown (hE.w tw_533) dX3_copy_54 ?_
          obtain ⟨r42, n43, hc41, hf⟩ := bd2_some hf
          refine cV (X := List.take 0 (wX3 E a n)) (Y := List.drop 37 (wX3 E a n)) (w := (wX3 E a n)) (w' := (wX3 E a n43)) (q0 := 0) lk_X3_49 hx hb hml hown hE hA (c_X3_finding l E a n (-1000000006 : Int32) r42 n43 hc41) rfl rfl hP hD hS rfl rfl ⟨rfl, rfl, Nat.le_of_ble_eq_true rfl, Nat.le_of_ble_eq_true rfl⟩ hl.1 (As := [.int (-1000000006 : Int32)]) (rest := []) rfl rfl (Nat.le_of_ble_eq_true rfl) ⟨Nat.zero_le _, Nat.zero_le _⟩ dX3_copy_56 (fun H locs hP hD hS => ?_)
          refine W.eq (g2 := F0 m 59 ls [.int r42]) rfl ?_
          obtain ⟨rfl, rfl⟩ := so2 hf
          exact rt_i hx hb hr hlocks hP hD hS dX3_copy_59
    · have hf := ip c9 hf
      refine lv_aload_n hx hb dX3_copy_14 rfl (lv_at hl 0 rfl) ?_
      refine lv_ldc (v := (-1000000001 : Int32)) hx hb hown (hE.w tw_148) dX3_copy_15 ?_
      obtain ⟨r45, n46, hc44, hf⟩ := bd2_some hf
      refine cV (X := List.take 0 (wX3 E a n)) (Y := List.drop 37 (wX3 E a n)) (w := (wX3 E a n)) (w' := (wX3 E a n46)) (q0 := 0) lk_X3_49 hx hb hml hown hE hA (c_X3_finding l E a n (-1000000001 : Int32) r45 n46 hc44) rfl rfl hP hD hS rfl rfl ⟨rfl, rfl, Nat.le_of_ble_eq_true rfl, Nat.le_of_ble_eq_true rfl⟩ hl.1 (As := [.int (-1000000001 : Int32)]) (rest := []) rfl rfl (Nat.le_of_ble_eq_true rfl) ⟨Nat.zero_le _, Nat.zero_le _⟩ dX3_copy_17 (fun H locs hP hD hS => ?_)
      refine W.eq (g2 := F0 m 20 ls [.int r45]) rfl ?_
      obtain ⟨rfl, rfl⟩ := so2 hf
      exact rt_i hx hb hr hlocks hP hD hS dX3_copy_20
def lp_X3_lays_40 (p1 : Int32) : Nat → (Int32) → (Int32) → (NS) → Option (Int32 × NS)
  | 0, _, _, _ => none
  | k_9 + 1, v4_9, v3_9, n_9 => if (g1_size ((g3_sheets n_9) (p1.toNatClampNeg))) ≤ v4_9 then some (v3_9, n_9) else if (g0_people (g3_house n_9)) ≤ v4_9 then some (v3_9, n_9) else gd v4_9 40 (bd2 (if ((g1_row ((g3_sheets n_9) (p1.toNatClampNeg))) v4_9.toNatClampNeg) < (0 : Int64) then some (v3_9, n_9) else gd v4_9 40 (if (99 : Int64) < ((g1_row ((g3_sheets n_9) (p1.toNatClampNeg))) v4_9.toNatClampNeg) then some (v3_9, n_9) else gd v4_9 40 (gd v4_9 8 (jn1 (s3_house n_9 (s0_freshes (g3_house n_9) (upd (g0_freshes (g3_house n_9)) v4_9.toNatClampNeg (((g1_row ((g3_sheets n_9) (p1.toNatClampNeg))) v4_9.toNatClampNeg).toInt32)))) (fun n_22 => some ((v3_9 + (1 : Int32)), n_22)))))) (fun x14 n15 => lp_X3_lays_40 p1 k_9 (v4_9 + (1 : Int32)) x14 n15))
def f_X3_lays (n : NS) (p1 : Int32) : Option (Int32 × NS) := bd1 (f_X3_isSheet p1) (fun r2 => if (bI r2) = 0 then bd2 (f_X3_finding n (-1000000001 : Int32)) (fun r27 n28 => some (r27, n28)) else gd p1 4 (bd1 (f_X1_isMissing ((g3_sheets n) (p1.toNatClampNeg))) (fun r7 => if (bI r7) = 0 then lp_X3_lays_40 p1 FU (0 : Int32) (0 : Int32) n else bd2 (f_X3_finding n (-1000000006 : Int32)) (fun r24 n25 => some (r24, n25)))))
set_option maxHeartbeats 4000000 in
set_option maxRecDepth 100000 in
theorem c_X3_lays (l : Launch) (E : EV) (a : Nat → Nat → Nat) (n : NS) (p1 : Int32)  (r : Int32) (n' : NS) (hf : f_X3_lays n p1 = some (r, n')) : Ct l E yX3_lays cX3_lays 5 ((Option.some FieldType.int)) (rmk 2 42) [.ref ((a 8) 0), .int p1] (wX3 E a n) (wX3 E a n') (some (.int r)) := by
  refine Ct.of (by decide) (Nat.le_of_ble_eq_true rfl) ?_
  intro p e s m below meth c A ls hC hP hD hl
  obtain ⟨hx, hb, hr, hml, hown, hlocks, hE, hA⟩ := hC
  have hts : ∀ w ∈ tbl, w.before [.ref ((a 8) 0), .int p1].toArray s = true := fun w hw => hE.w hw
  have hS : va_S A s.heap s.heap [] := va_S.rf
  have hl : lv_has ls 5 [(0, .ref ((a 8) 0)), (1, .int p1)] := hl
  unfold f_X3_lays at hf
  refine lv_iload_n hx hb dX3_lays_0 rfl (lv_at hl 1 rfl) ?_
  obtain ⟨r2, hc1, hf⟩ := bd1_some hf
  refine cS (X := List.take 0 (wX3 E a n)) (Y := List.drop 0 (wX3 E a n)) (w := (wX3 E a n)) (w' := (wX3 E a n)) lk_X3_157 hx hb hml hown hE hA (c_X3_isSheet l E p1 r2 hc1) rfl rfl hP hD hS ⟨rfl, rfl, Nat.le_of_ble_eq_true rfl, Nat.le_of_ble_eq_true rfl⟩ hl.1 (As := [.int p1]) (rest := []) rfl rfl (Nat.le_of_ble_eq_true rfl) ⟨Nat.zero_le _, Nat.zero_le _⟩ dX3_lays_1 (fun H locs hP hD hS => ?_)
  refine W.eq (g2 := F0 m 4 ls [.int (bI r2)]) rfl ?_
  refine lv_if_ne (tgt := 14) hx hb dX3_lays_4 (by decide) (fun c3 => ?_) (fun c3 => ?_)
  · have hf := im c3 hf
    refine lv_aload_n hx hb dX3_lays_14 rfl (lv_at hl 0 rfl) ?_
    refine va_get (D := E.1) (ci := 3) (v := .ref (a 8 1)) (C := RX3) (T := TX3) (N := 7) hx hb hts inX3 hown hE.2.1 hP 0 rfl rfl 5 (by decide) (hE.w tw_124) (fun _ h9 => h9) rfl dX3_lays_15 ?_
    refine lv_iload_n hx hb dX3_lays_18 rfl (lv_at hl 1 rfl) ?_
    obtain ⟨hg4, hf⟩ := gd_some hf
    have hk5 := vp_lt hg4
    refine va_aldq hx hb hE.2.1 hP 27 3 rfl rfl hg4 dX3_lays_19 ?_
    refine W.eq (g2 := F0 m 20 ls [.ref (a (4 + p1.toNatClampNeg) 0)]) rfl ?_
    refine lv_astore_n (lv' := [(2, .ref (a (4 + p1.toNatClampNeg) 0)), (0, .ref ((a 8) 0)), (1, .int p1)]) hx hb dX3_lays_20 rfl hl (by decide) rfl (fun ls hl => ?_)
    refine lv_aload_n hx hb dX3_lays_21 rfl (lv_at hl 0 rfl) ?_
    obtain ⟨r7, hc6, hf⟩ := bd1_some hf
    refine cVN (w := (wX3 E a n)) (w' := (wX3 E a n)) (q0 := 0) lk_X3_167 hx hb hml hown hE hA (c_X1_isMissing l E (a (4 + p1.toNatClampNeg)) ((g3_sheets n) (p1.toNatClampNeg)) r7 hc6) (wX3_spl E a _ hk5) (wX3_spl E a _ hk5) hP hD hS rfl rfl ⟨rfl, rfl, Nat.le_of_ble_eq_true rfl, Nat.le_of_ble_eq_true rfl⟩ hl.1 (As := []) (rest := []) rfl rfl (Nat.le_of_ble_eq_true rfl) ⟨Nat.zero_le _, Nat.zero_le _⟩ dX3_lays_22 (fun H locs hP hD hS => ?_)
    refine W.eq (g2 := F0 m 25 ls [.int (bI r7)]) rfl ?_
    refine lv_if_eq (tgt := 35) hx hb dX3_lays_25 (by decide) (fun c8 => ?_) (fun c8 => ?_)
    · have hf := ip c8 hf
      refine lv_iconst (v := (0 : Int32)) hx hb dX3_lays_35 (by decide) ?_
      refine lv_istore_n (lv' := [(3, .int (0 : Int32)), (2, .ref (a (4 + p1.toNatClampNeg) 0)), (0, .ref ((a 8) 0)), (1, .int p1)]) hx hb dX3_lays_36 rfl hl (by decide) rfl (fun ls hl => ?_)
      refine lv_iconst (v := (0 : Int32)) hx hb dX3_lays_37 (by decide) ?_
      refine lv_istore (lv' := [(4, .int (0 : Int32)), (3, .int (0 : Int32)), (2, .ref (a (4 + p1.toNatClampNeg) 0)), (0, .ref ((a 8) 0)), (1, .int p1)]) hx hb dX3_lays_38 hl (by decide) rfl (fun ls hl => ?_)
      have L_9 : ∀ (k_9 : Nat) (v4_9 : Int32) (v3_9 : Int32) (n_9 : NS), lp_X3_lays_40 p1 k_9 v4_9 v3_9 n_9 = some (r, n') → ∀ (H : Heap) (locs : List Loc) (ls : Array Slot), va_P E.1 vwCl (wX3 E a n_9) H → va_D A (wX3 E a n_9) → va_S A s.heap H locs → lv_has ls 5 [(4, .int v4_9), (3, .int v3_9), (2, .ref (a (4 + p1.toNatClampNeg) 0)), (0, .ref ((a 8) 0)), (1, .int p1)] → W p l e (rmk 2 42) s m [.ref ((a 8) 0), .int p1].toArray below meth c H locs 0 0 (MQ below (Qct E A (wX3 E a n') (some (.int r))) [.ref ((a 8) 0), .int p1].toArray s 0 0 A) (F0 m 40 ls []) := by
        intro k_9
        induction k_9 with
        | zero =>
          intro v4_9 v3_9 n_9 hf
          rw [lp_X3_lays_40] at hf
          cases hf
        | succ k_9 ih_9 =>
          intro v4_9 v3_9 n_9 hf H locs ls hP hD hS hl
          rw [lp_X3_lays_40] at hf
          refine lv_iload hx hb dX3_lays_40 (lv_at hl 0 rfl) ?_
          refine lv_aload_n hx hb dX3_lays_42 rfl (lv_at hl 2 rfl) ?_
          refine va_getN (D := E.1) (ci := 1) (v := .int (g1_size ((g3_sheets n_9) (p1.toNatClampNeg)))) (C := RX1) (T := TX1) (N := 3) hx hb hts inX1 hown hE.2.1 hP (28 + 2 * p1.toNatClampNeg) (wX3_sh E a _ hk5) rfl 2 (by decide) (hE.w tw_110) (fun _ h9 => h9) rfl dX3_lays_43 ?_
          refine lv_icmp_ge (tgt := 114) hx hb dX3_lays_46 (by decide) (fun c10 => ?_) (fun c10 => ?_)
          · have hf := ip c10 hf
            refine lv_iload_n hx hb dX3_lays_114 rfl (lv_at hl 1 rfl) ?_
            obtain ⟨rfl, rfl⟩ := so2 hf
            exact rt_i hx hb hr hlocks hP hD hS dX3_lays_115
          · have hf := im c10 hf
            refine lv_iload hx hb dX3_lays_49 (lv_at hl 0 rfl) ?_
            refine lv_aload_n hx hb dX3_lays_51 rfl (lv_at hl 3 rfl) ?_
            refine va_get (D := E.1) (ci := 3) (v := .ref ((a 0) 0)) (C := RX3) (T := TX3) (N := 7) hx hb hts inX3 hown hE.2.1 hP 0 rfl rfl 0 (by decide) (hE.w tw_119) (fun _ h9 => h9) rfl dX3_lays_52 ?_
            refine va_getN (D := E.1) (ci := 0) (v := .int (g0_people (g3_house n_9))) (C := RX0) (T := TX0) (N := 10) hx hb hts inX0 hown hE.2.1 hP 9 rfl rfl 2 (by decide) (hE.w tw_31) (fun _ h9 => h9) rfl dX3_lays_55 ?_
            refine lv_icmp_ge (tgt := 114) hx hb dX3_lays_58 (by decide) (fun c11 => ?_) (fun c11 => ?_)
            · have hf := ip c11 hf
              refine lv_iload_n hx hb dX3_lays_114 rfl (lv_at hl 1 rfl) ?_
              obtain ⟨rfl, rfl⟩ := so2 hf
              exact rt_i hx hb hr hlocks hP hD hS dX3_lays_115
            · have hf := im c11 hf
              refine lv_aload_n hx hb dX3_lays_61 rfl (lv_at hl 2 rfl) ?_
              refine va_getN (D := E.1) (ci := 1) (v := .ref ((a (4 + p1.toNatClampNeg)) 1)) (C := RX1) (T := TX1) (N := 3) hx hb hts inX1 hown hE.2.1 hP (28 + 2 * p1.toNatClampNeg) (wX3_sh E a _ hk5) rfl 0 (by decide) (hE.w tw_106) (fun _ h9 => h9) rfl dX3_lays_62 ?_
              refine lv_iload hx hb dX3_lays_65 (lv_at hl 0 rfl) ?_
              obtain ⟨hg12, hf⟩ := gd_some hf
              refine va_lald hx hb hE.2.1 hP (29 + 2 * p1.toNatClampNeg) 1 (wX3_row E a _ hk5) rfl hg12 dX3_lays_67 ?_
              refine lv_lconst (v := (0 : Int64)) hx hb dX3_lays_68 (by decide) ?_
              refine W.lcmp hx hb dX3_lays_69 ?_
              obtain ⟨x14, n15, hq17, hf⟩ := bd2_some hf
              have J16 : ∀ (H : Heap) (locs : List Loc) (ls : Array Slot), va_P E.1 vwCl (wX3 E a n15) H → va_D A (wX3 E a n15) → va_S A s.heap H locs → lv_has ls 5 [(4, .int v4_9), (3, .int x14), (2, .ref (a (4 + p1.toNatClampNeg) 0)), (0, .ref ((a 8) 0)), (1, .int p1)] → W p l e (rmk 2 42) s m [.ref ((a 8) 0), .int p1].toArray below meth c H locs 0 0 (MQ below (Qct E A (wX3 E a n') (some (.int r))) [.ref ((a 8) 0), .int p1].toArray s 0 0 A) (F0 m 108 ls []) := by
                intro H locs ls hP hD hS hl
                refine lv_iinc (v := (v4_9 + (1 : Int32))) (lv' := [(4, .int (v4_9 + (1 : Int32))), (3, .int x14), (2, .ref (a (4 + p1.toNatClampNeg) 0)), (0, .ref ((a 8) 0)), (1, .int p1)]) hx hb dX3_lays_108 hl (k := 0) rfl rfl (by decide) rfl (fun ls hl => ?_)
                refine lv_goto (tgt := 40) hx hb dX3_lays_111 (by decide) ?_
                exact ih_9 _ _ _ hf _ _ _ hP hD hS (lv_sub hl [0, 1, 2, 3, 4] rfl)
              refine lv_if_lt (tgt := 108) hx hb dX3_lays_70 (by decide) (fun c13 => ?_) (fun c13 => ?_)
              · have c13 := (lg_cmp_lt _ _).mp c13
                have hq17 := ip c13 hq17
                obtain ⟨rfl, rfl⟩ := so2 hq17
                exact J16 _ _ _ hP hD hS (lv_sub hl [0, 1, 2, 3, 4] rfl)
              · have c13 := fun h => c13 ((lg_cmp_lt _ _).mpr h)
                have hq17 := im c13 hq17
                refine lv_aload_n hx hb dX3_lays_73 rfl (lv_at hl 2 rfl) ?_
                refine va_getN (D := E.1) (ci := 1) (v := .ref ((a (4 + p1.toNatClampNeg)) 1)) (C := RX1) (T := TX1) (N := 3) hx hb hts inX1 hown hE.2.1 hP (28 + 2 * p1.toNatClampNeg) (wX3_sh E a _ hk5) rfl 0 (by decide) (hE.w tw_106) (fun _ h9 => h9) rfl dX3_lays_74 ?_
                refine lv_iload hx hb dX3_lays_77 (lv_at hl 0 rfl) ?_
                obtain ⟨hg18, hq17⟩ := gd_some hq17
                refine va_lald hx hb hE.2.1 hP (29 + 2 * p1.toNatClampNeg) 1 (wX3_row E a _ hk5) rfl hg18 dX3_lays_79 ?_
                refine lv_ldc2 (v := (99 : Int64)) hx hb hown (hE.w tw_551) dX3_lays_80 ?_
                refine W.lcmp hx hb dX3_lays_83 ?_
                refine lv_if_gt (tgt := 108) hx hb dX3_lays_84 (by decide) (fun c19 => ?_) (fun c19 => ?_)
                · have c19 := (lg_cmp_gt _ _).mp c19
                  have hq17 := ip c19 hq17
                  obtain ⟨rfl, rfl⟩ := so2 hq17
                  exact J16 _ _ _ hP hD hS (lv_sub hl [0, 1, 2, 3, 4] rfl)
                · have c19 := fun h => c19 ((lg_cmp_gt _ _).mpr h)
                  have hq17 := im c19 hq17
                  refine lv_aload_n hx hb dX3_lays_87 rfl (lv_at hl 3 rfl) ?_
                  refine va_get (D := E.1) (ci := 3) (v := .ref ((a 0) 0)) (C := RX3) (T := TX3) (N := 7) hx hb hts inX3 hown hE.2.1 hP 0 rfl rfl 0 (by decide) (hE.w tw_119) (fun _ h9 => h9) rfl dX3_lays_88 ?_
                  refine va_getN (D := E.1) (ci := 0) (v := .ref ((a 0) 7)) (C := RX0) (T := TX0) (N := 10) hx hb hts inX0 hown hE.2.1 hP 9 rfl rfl 6 (by decide) (hE.w tw_43) (fun _ h9 => h9) rfl dX3_lays_91 ?_
                  refine lv_iload hx hb dX3_lays_94 (lv_at hl 0 rfl) ?_
                  refine lv_aload_n hx hb dX3_lays_96 rfl (lv_at hl 2 rfl) ?_
                  refine va_getN (D := E.1) (ci := 1) (v := .ref ((a (4 + p1.toNatClampNeg)) 1)) (C := RX1) (T := TX1) (N := 3) hx hb hts inX1 hown hE.2.1 hP (28 + 2 * p1.toNatClampNeg) (wX3_sh E a _ hk5) rfl 0 (by decide) (hE.w tw_106) (fun _ h9 => h9) rfl dX3_lays_97 ?_
                  refine lv_iload hx hb dX3_lays_100 (lv_at hl 0 rfl) ?_
                  obtain ⟨hg20, hq17⟩ := gd_some hq17
                  refine va_lald hx hb hE.2.1 hP (29 + 2 * p1.toNatClampNeg) 1 (wX3_row E a _ hk5) rfl hg20 dX3_lays_102 ?_
                  refine lv_l2i (v := (((g1_row ((g3_sheets n_9) (p1.toNatClampNeg))) v4_9.toNatClampNeg).toInt32)) hx hb dX3_lays_103 rfl ?_
                  obtain ⟨hg21, hq17⟩ := gd_some hq17
                  obtain ⟨n_22, en_22, hq17⟩ := jn1_some hq17
                  refine va_iast hx hb hE.2.1 hP hD hS 13 0 rfl rfl hg21 dX3_lays_104 (fun H locs hP hD hS => ?_)
                  have hP : va_P E.1 vwCl (wX3 E a n_22) H := wst (by rw [en_22]; exact rfl) hP
                  have hD : va_D A (wX3 E a n_22) := wsd (by rw [en_22]; exact rfl) hD
                  refine lv_iinc (v := (v3_9 + (1 : Int32))) (lv' := [(3, .int (v3_9 + (1 : Int32))), (4, .int v4_9), (2, .ref (a (4 + p1.toNatClampNeg) 0)), (0, .ref ((a 8) 0)), (1, .int p1)]) hx hb dX3_lays_105 hl (k := 1) rfl rfl (by decide) rfl (fun ls hl => ?_)
                  obtain ⟨rfl, rfl⟩ := so2 hq17
                  exact J16 _ _ _ hP hD hS (lv_sub hl [1, 0, 2, 3, 4] rfl)
      exact L_9 _ _ _ _ hf _ _ _ hP hD hS (lv_sub hl [0, 1, 2, 3, 4] rfl)
    · have hf := im c8 hf
      refine lv_aload_n hx hb dX3_lays_28 rfl (lv_at hl 1 rfl) ?_
      refine lv_ldc (v := (-1000000006 : Int32)) hx hb hown (hE.w tw_533) dX3_lays_29 ?_
      obtain ⟨r24, n25, hc23, hf⟩ := bd2_some hf
      refine cV (X := List.take 0 (wX3 E a n)) (Y := List.drop 37 (wX3 E a n)) (w := (wX3 E a n)) (w' := (wX3 E a n25)) (q0 := 0) lk_X3_49 hx hb hml hown hE hA (c_X3_finding l E a n (-1000000006 : Int32) r24 n25 hc23) rfl rfl hP hD hS rfl rfl ⟨rfl, rfl, Nat.le_of_ble_eq_true rfl, Nat.le_of_ble_eq_true rfl⟩ hl.1 (As := [.int (-1000000006 : Int32)]) (rest := []) rfl rfl (Nat.le_of_ble_eq_true rfl) ⟨Nat.zero_le _, Nat.zero_le _⟩ dX3_lays_31 (fun H locs hP hD hS => ?_)
      refine W.eq (g2 := F0 m 34 ls [.int r24]) rfl ?_
      obtain ⟨rfl, rfl⟩ := so2 hf
      exact rt_i hx hb hr hlocks hP hD hS dX3_lays_34
  · have hf := ip c3 hf
    refine lv_aload_n hx hb dX3_lays_7 rfl (lv_at hl 0 rfl) ?_
    refine lv_ldc (v := (-1000000001 : Int32)) hx hb hown (hE.w tw_148) dX3_lays_8 ?_
    obtain ⟨r27, n28, hc26, hf⟩ := bd2_some hf
    refine cV (X := List.take 0 (wX3 E a n)) (Y := List.drop 37 (wX3 E a n)) (w := (wX3 E a n)) (w' := (wX3 E a n28)) (q0 := 0) lk_X3_49 hx hb hml hown hE hA (c_X3_finding l E a n (-1000000001 : Int32) r27 n28 hc26) rfl rfl hP hD hS rfl rfl ⟨rfl, rfl, Nat.le_of_ble_eq_true rfl, Nat.le_of_ble_eq_true rfl⟩ hl.1 (As := [.int (-1000000001 : Int32)]) (rest := []) rfl rfl (Nat.le_of_ble_eq_true rfl) ⟨Nat.zero_le _, Nat.zero_le _⟩ dX3_lays_10 (fun H locs hP hD hS => ?_)
    refine W.eq (g2 := F0 m 13 ls [.int r27]) rfl ?_
    obtain ⟨rfl, rfl⟩ := so2 hf
    exact rt_i hx hb hr hlocks hP hD hS dX3_lays_13
def lp_X3_book_32 (p1 : Int32) (p2 : Int32) : Nat → (Int32) → (NS) → Option (Int32 × NS)
  | 0, _, _ => none
  | k_8 + 1, v5_8, n_8 => if (g1_size ((g3_sheets n_8) (p1.toNatClampNeg))) ≤ v5_8 then some ((g1_size ((g3_sheets n_8) (p1.toNatClampNeg))), n_8) else bd1 (f_X0_deedOf (g3_trial n_8) p2) (fun r11 => bd1 (f_X1_put ((g3_sheets n_8) (p1.toNatClampNeg)) v5_8 (r11.toInt64)) (fun s13 => jn1 (s3_sheets n_8 (va_up (g3_sheets n_8) (p1.toNatClampNeg) s13)) (fun n_14 => bd1 (f_X0_go (g3_trial n_14)) (fun h16 => jn1 (s3_trial n_14 h16) (fun n_17 => lp_X3_book_32 p1 p2 k_8 (v5_8 + (1 : Int32)) n_17)))))
def f_X3_book (n : NS) (p1 : Int32) (p2 : Int32) : Option (Int32 × NS) := bd1 (f_X3_refusalOf n p1 p2) (fun r2 => if r2 = 0 then gd p1 4 (bd1 (f_X3_startTrial n) (fun n7 => lp_X3_book_32 p1 p2 FU (0 : Int32) n7)) else bd2 (f_X3_finding n r2) (fun r19 n20 => some (r19, n20)))
set_option maxHeartbeats 4000000 in
set_option maxRecDepth 100000 in
theorem c_X3_book (l : Launch) (E : EV) (a : Nat → Nat → Nat) (n : NS) (p1 : Int32) (p2 : Int32)  (r : Int32) (n' : NS) (hf : f_X3_book n p1 p2 = some (r, n')) : Ct l E yX3_book cX3_book 6 ((Option.some FieldType.int)) (rmk 4 86) [.ref ((a 8) 0), .int p1, .int p2] (wX3 E a n) (wX3 E a n') (some (.int r)) := by
  refine Ct.of (by decide) (Nat.le_of_ble_eq_true rfl) ?_
  intro p e s m below meth c A ls hC hP hD hl
  obtain ⟨hx, hb, hr, hml, hown, hlocks, hE, hA⟩ := hC
  have hts : ∀ w ∈ tbl, w.before [.ref ((a 8) 0), .int p1, .int p2].toArray s = true := fun w hw => hE.w hw
  have hS : va_S A s.heap s.heap [] := va_S.rf
  have hl : lv_has ls 6 [(0, .ref ((a 8) 0)), (1, .int p1), (2, .int p2)] := hl
  unfold f_X3_book at hf
  refine lv_aload_n hx hb dX3_book_0 rfl (lv_at hl 0 rfl) ?_
  refine lv_iload_n hx hb dX3_book_1 rfl (lv_at hl 1 rfl) ?_
  refine lv_iload_n hx hb dX3_book_2 rfl (lv_at hl 2 rfl) ?_
  obtain ⟨r2, hc1, hf⟩ := bd1_some hf
  refine cV (X := List.take 0 (wX3 E a n)) (Y := List.drop 37 (wX3 E a n)) (w := (wX3 E a n)) (w' := (wX3 E a n)) (q0 := 0) lk_X3_194 hx hb hml hown hE hA (c_X3_refusalOf l E a n p1 p2 r2 hc1) rfl rfl hP hD hS rfl rfl ⟨rfl, rfl, Nat.le_of_ble_eq_true rfl, Nat.le_of_ble_eq_true rfl⟩ hl.1 (As := [.int p1, .int p2]) (rest := []) rfl rfl (Nat.le_of_ble_eq_true rfl) ⟨Nat.zero_le _, Nat.zero_le _⟩ dX3_book_3 (fun H locs hP hD hS => ?_)
  refine W.eq (g2 := F0 m 6 ls [.int r2]) rfl ?_
  refine lv_istore_n (lv' := [(3, .int r2), (0, .ref ((a 8) 0)), (1, .int p1), (2, .int p2)]) hx hb dX3_book_6 rfl hl (by decide) rfl (fun ls hl => ?_)
  refine lv_iload_n hx hb dX3_book_7 rfl (lv_at hl 0 rfl) ?_
  refine lv_if_eq (tgt := 17) hx hb dX3_book_8 (by decide) (fun c3 => ?_) (fun c3 => ?_)
  · have hf := ip c3 hf
    refine lv_aload_n hx hb dX3_book_17 rfl (lv_at hl 1 rfl) ?_
    refine va_get (D := E.1) (ci := 3) (v := .ref (a 8 1)) (C := RX3) (T := TX3) (N := 7) hx hb hts inX3 hown hE.2.1 hP 0 rfl rfl 5 (by decide) (hE.w tw_124) (fun _ h9 => h9) rfl dX3_book_18 ?_
    refine lv_iload_n hx hb dX3_book_21 rfl (lv_at hl 2 rfl) ?_
    obtain ⟨hg4, hf⟩ := gd_some hf
    have hk5 := vp_lt hg4
    refine va_aldq hx hb hE.2.1 hP 27 3 rfl rfl hg4 dX3_book_22 ?_
    refine W.eq (g2 := F0 m 23 ls [.ref (a (4 + p1.toNatClampNeg) 0)]) rfl ?_
    refine lv_astore (lv' := [(4, .ref (a (4 + p1.toNatClampNeg) 0)), (3, .int r2), (0, .ref ((a 8) 0)), (1, .int p1), (2, .int p2)]) hx hb dX3_book_23 hl (by decide) rfl (fun ls hl => ?_)
    refine lv_aload_n hx hb dX3_book_25 rfl (lv_at hl 2 rfl) ?_
    obtain ⟨n7, hc6, hf⟩ := bd1_some hf
    refine cV (X := List.take 0 (wX3 E a n)) (Y := List.drop 37 (wX3 E a n)) (w := (wX3 E a n)) (w' := (wX3 E a n7)) (q0 := 0) lk_X3_124 hx hb hml hown hE hA (c_X3_startTrial l E a n n7 hc6) rfl rfl hP hD hS rfl rfl ⟨rfl, rfl, Nat.le_of_ble_eq_true rfl, Nat.le_of_ble_eq_true rfl⟩ hl.1 (As := []) (rest := []) rfl rfl (Nat.le_of_ble_eq_true rfl) ⟨Nat.zero_le _, Nat.zero_le _⟩ dX3_book_26 (fun H locs hP hD hS => ?_)
    refine W.eq (g2 := F0 m 29 ls []) rfl ?_
    refine lv_iconst (v := (0 : Int32)) hx hb dX3_book_29 (by decide) ?_
    refine lv_istore (lv' := [(5, .int (0 : Int32)), (4, .ref (a (4 + p1.toNatClampNeg) 0)), (3, .int r2), (0, .ref ((a 8) 0)), (1, .int p1), (2, .int p2)]) hx hb dX3_book_30 hl (by decide) rfl (fun ls hl => ?_)
    have L_8 : ∀ (k_8 : Nat) (v5_8 : Int32) (n_8 : NS), lp_X3_book_32 p1 p2 k_8 v5_8 n_8 = some (r, n') → ∀ (H : Heap) (locs : List Loc) (ls : Array Slot), va_P E.1 vwCl (wX3 E a n_8) H → va_D A (wX3 E a n_8) → va_S A s.heap H locs → lv_has ls 6 [(5, .int v5_8), (4, .ref (a (4 + p1.toNatClampNeg) 0)), (3, .int r2), (0, .ref ((a 8) 0)), (1, .int p1), (2, .int p2)] → W p l e (rmk 4 86) s m [.ref ((a 8) 0), .int p1, .int p2].toArray below meth c H locs 0 0 (MQ below (Qct E A (wX3 E a n') (some (.int r))) [.ref ((a 8) 0), .int p1, .int p2].toArray s 0 0 A) (F0 m 32 ls []) := by
      intro k_8
      induction k_8 with
      | zero =>
        intro v5_8 n_8 hf
        rw [lp_X3_book_32] at hf
        cases hf
      | succ k_8 ih_8 =>
        intro v5_8 n_8 hf H locs ls hP hD hS hl
        rw [lp_X3_book_32] at hf
        refine lv_iload hx hb dX3_book_32 (lv_at hl 0 rfl) ?_
        refine lv_aload hx hb dX3_book_34 (lv_at hl 1 rfl) ?_
        refine va_getN (D := E.1) (ci := 1) (v := .int (g1_size ((g3_sheets n_8) (p1.toNatClampNeg)))) (C := RX1) (T := TX1) (N := 3) hx hb hts inX1 hown hE.2.1 hP (28 + 2 * p1.toNatClampNeg) (wX3_sh E a _ hk5) rfl 2 (by decide) (hE.w tw_110) (fun _ h9 => h9) rfl dX3_book_36 ?_
        refine lv_icmp_ge (tgt := 71) hx hb dX3_book_39 (by decide) (fun c9 => ?_) (fun c9 => ?_)
        · have hf := ip c9 hf
          refine lv_aload hx hb dX3_book_71 (lv_at hl 1 rfl) ?_
          refine va_getN (D := E.1) (ci := 1) (v := .int (g1_size ((g3_sheets n_8) (p1.toNatClampNeg)))) (C := RX1) (T := TX1) (N := 3) hx hb hts inX1 hown hE.2.1 hP (28 + 2 * p1.toNatClampNeg) (wX3_sh E a _ hk5) rfl 2 (by decide) (hE.w tw_110) (fun _ h9 => h9) rfl dX3_book_73 ?_
          obtain ⟨rfl, rfl⟩ := so2 hf
          exact rt_i hx hb hr hlocks hP hD hS dX3_book_76
        · have hf := im c9 hf
          refine lv_aload hx hb dX3_book_42 (lv_at hl 1 rfl) ?_
          refine lv_iload hx hb dX3_book_44 (lv_at hl 0 rfl) ?_
          refine lv_aload_n hx hb dX3_book_46 rfl (lv_at hl 3 rfl) ?_
          refine va_get (D := E.1) (ci := 3) (v := .ref ((a 1) 0)) (C := RX3) (T := TX3) (N := 7) hx hb hts inX3 hown hE.2.1 hP 0 rfl rfl 1 (by decide) (hE.w tw_120) (fun _ h9 => h9) rfl dX3_book_47 ?_
          refine lv_iload_n hx hb dX3_book_50 rfl (lv_at hl 5 rfl) ?_
          obtain ⟨r11, hc10, hf⟩ := bd1_some hf
          refine cVN (X := List.take 17 (wX3 E a n_8)) (Y := List.drop 25 (wX3 E a n_8)) (w := (wX3 E a n_8)) (w' := (wX3 E a n_8)) (q0 := 0) lk_X3_100 hx hb hml hown hE hA (c_X0_deedOf l E (a 1) (g3_trial n_8) p2 r11 hc10) rfl rfl hP hD hS rfl rfl ⟨rfl, rfl, Nat.le_of_ble_eq_true rfl, Nat.le_of_ble_eq_true rfl⟩ hl.1 (As := [.int p2]) (rest := [.int v5_8, .ref (a (4 + p1.toNatClampNeg) 0)]) rfl rfl (Nat.le_of_ble_eq_true rfl) ⟨Nat.zero_le _, Nat.zero_le _⟩ dX3_book_51 (fun H locs hP hD hS => ?_)
          refine W.eq (g2 := F0 m 54 ls [.int r11, .int v5_8, .ref (a (4 + p1.toNatClampNeg) 0)]) rfl ?_
          refine lv_i2l (v := (r11.toInt64)) hx hb dX3_book_54 rfl ?_
          obtain ⟨s13, hc12, hf⟩ := bd1_some hf
          obtain ⟨n_14, en_14, hf⟩ := jn1_some hf
          refine cVN (w := (wX3 E a n_8)) (w' := (wX3 E a n_14)) (q0 := 0) lk_X3_176 hx hb hml hown hE hA (c_X1_put l E (a (4 + p1.toNatClampNeg)) ((g3_sheets n_8) (p1.toNatClampNeg)) v5_8 (r11.toInt64) s13 hc12) (wX3_spl E a _ hk5) (by rw [en_14]; exact wX3_spl' E a _ _ hk5) hP hD hS rfl rfl ⟨rfl, rfl, Nat.le_of_ble_eq_true rfl, Nat.le_of_ble_eq_true rfl⟩ hl.1 (As := [.int v5_8, .long (r11.toInt64)]) (rest := []) rfl rfl (Nat.le_of_ble_eq_true rfl) ⟨Nat.zero_le _, Nat.zero_le _⟩ dX3_book_55 (fun H locs hP hD hS => ?_)
          refine W.eq (g2 := F0 m 58 ls []) rfl ?_
          refine lv_aload_n hx hb dX3_book_58 rfl (lv_at hl 3 rfl) ?_
          refine va_get (D := E.1) (ci := 3) (v := .ref ((a 1) 0)) (C := RX3) (T := TX3) (N := 7) hx hb hts inX3 hown hE.2.1 hP 0 rfl rfl 1 (by decide) (hE.w tw_120) (fun _ h9 => h9) rfl dX3_book_59 ?_
          obtain ⟨h16, hc15, hf⟩ := bd1_some hf
          obtain ⟨n_17, en_17, hf⟩ := jn1_some hf
          refine cVN (X := List.take 17 (wX3 E a n_14)) (Y := List.drop 25 (wX3 E a n_14)) (w := (wX3 E a n_14)) (w' := (wX3 E a n_17)) (q0 := 0) lk_X3_133 hx hb hml hown hE hA (c_X0_go l E (a 1) (g3_trial n_14) h16 hc15) rfl (by rw [en_17]; rfl) hP hD hS rfl rfl ⟨rfl, rfl, Nat.le_of_ble_eq_true rfl, Nat.le_of_ble_eq_true rfl⟩ hl.1 (As := []) (rest := []) rfl rfl (Nat.le_of_ble_eq_true rfl) ⟨Nat.zero_le _, Nat.zero_le _⟩ dX3_book_62 (fun H locs hP hD hS => ?_)
          refine W.eq (g2 := F0 m 65 ls []) rfl ?_
          refine lv_iinc (v := (v5_8 + (1 : Int32))) (lv' := [(5, .int (v5_8 + (1 : Int32))), (4, .ref (a (4 + p1.toNatClampNeg) 0)), (3, .int r2), (0, .ref ((a 8) 0)), (1, .int p1), (2, .int p2)]) hx hb dX3_book_65 hl (k := 0) rfl rfl (by decide) rfl (fun ls hl => ?_)
          refine lv_goto (tgt := 32) hx hb dX3_book_68 (by decide) ?_
          exact ih_8 _ _ hf _ _ _ hP hD hS (lv_sub hl [0, 1, 2, 3, 4, 5] rfl)
    exact L_8 _ _ _ hf _ _ _ hP hD hS (lv_sub hl [0, 1, 2, 3, 4, 5] rfl)
  · have hf := im c3 hf
    refine lv_aload_n hx hb dX3_book_11 rfl (lv_at hl 1 rfl) ?_
    refine lv_iload_n hx hb dX3_book_12 rfl (lv_at hl 0 rfl) ?_
    obtain ⟨r19, n20, hc18, hf⟩ := bd2_some hf
    refine cV (X := List.take 0 (wX3 E a n)) (Y := List.drop 37 (wX3 E a n)) (w := (wX3 E a n)) (w' := (wX3 E a n20)) (q0 := 0) lk_X3_49 hx hb hml hown hE hA (c_X3_finding l E a n r2 r19 n20 hc18) rfl rfl hP hD hS rfl rfl ⟨rfl, rfl, Nat.le_of_ble_eq_true rfl, Nat.le_of_ble_eq_true rfl⟩ hl.1 (As := [.int r2]) (rest := []) rfl rfl (Nat.le_of_ble_eq_true rfl) ⟨Nat.zero_le _, Nat.zero_le _⟩ dX3_book_13 (fun H locs hP hD hS => ?_)
    refine W.eq (g2 := F0 m 16 ls [.int r19]) rfl ?_
    obtain ⟨rfl, rfl⟩ := so2 hf
    exact rt_i hx hb hr hlocks hP hD hS dX3_book_16
def lp_X3_read_33 (p1 : Int32) (p2 : Int32) (v5_4 : Int32) (K : (Int32) → (Int32) → (NS) → Option (Int32 × NS)) : Nat → (Int32) → (Int32) → (NS) → Option (Int32 × NS)
  | 0, _, _, _ => none
  | k_6 + 1, v6_6, v4_6, n_6 => if (99 : Int32) < v6_6 then K v6_6 v4_6 n_6 else bd1 (f_X3_startTrial n_6) (fun n9 => gd p2 8 (jn1 (s3_trial n9 (s0_kinds (g3_trial n9) (upd (g0_kinds (g3_trial n9)) p2.toNatClampNeg v5_4))) (fun n_11 => gd p2 8 (jn1 (s3_trial n_11 (s0_freshes (g3_trial n_11) (upd (g0_freshes (g3_trial n_11)) p2.toNatClampNeg v6_6))) (fun n_13 => gd p1 4 (bd2 (f_X3_trialDoesAs n_13 (p1.toNatClampNeg) p2) (fun r17 n18 => jn1 (if (bI r17) = 0 then (v4_6) else ((v4_6 + (1 : Int32)))) (fun x20 => lp_X3_read_33 p1 p2 v5_4 K k_6 (v6_6 + (1 : Int32)) x20 n18))))))))
def lp_X3_read_23 (p1 : Int32) (p2 : Int32) : Nat → (Int32) → (Int32) → (NS) → Option (Int32 × NS)
  | 0, _, _, _ => none
  | k_4 + 1, v5_4, v4_4, n_4 => if (6 : Int32) ≤ v5_4 then some (v4_4, n_4) else lp_X3_read_33 p1 p2 v5_4 (fun (v6_23 : Int32) (v4_23 : Int32) (n_23 : NS) => lp_X3_read_23 p1 p2 k_4 (v5_4 + (1 : Int32)) v4_23 n_23) FU (0 : Int32) v4_4 n_4
def f_X3_read (n : NS) (p1 : Int32) (p2 : Int32) : Option (Int32 × NS) := bd1 (f_X3_refusalOf n p1 p2) (fun r2 => if r2 = 0 then lp_X3_read_23 p1 p2 FU (0 : Int32) (0 : Int32) n else bd2 (f_X3_finding n r2) (fun r25 n26 => some (r25, n26)))
set_option maxHeartbeats 4000000 in
set_option maxRecDepth 100000 in
theorem c_X3_read (l : Launch) (E : EV) (a : Nat → Nat → Nat) (n : NS) (p1 : Int32) (p2 : Int32)  (r : Int32) (n' : NS) (hf : f_X3_read n p1 p2 = some (r, n')) : Ct l E yX3_read cX3_read 7 ((Option.some FieldType.int)) (rmk 5 109) [.ref ((a 8) 0), .int p1, .int p2] (wX3 E a n) (wX3 E a n') (some (.int r)) := by
  refine Ct.of (by decide) (Nat.le_of_ble_eq_true rfl) ?_
  intro p e s m below meth c A ls hC hP hD hl
  obtain ⟨hx, hb, hr, hml, hown, hlocks, hE, hA⟩ := hC
  have hts : ∀ w ∈ tbl, w.before [.ref ((a 8) 0), .int p1, .int p2].toArray s = true := fun w hw => hE.w hw
  have hS : va_S A s.heap s.heap [] := va_S.rf
  have hl : lv_has ls 7 [(0, .ref ((a 8) 0)), (1, .int p1), (2, .int p2)] := hl
  unfold f_X3_read at hf
  refine lv_aload_n hx hb dX3_read_0 rfl (lv_at hl 0 rfl) ?_
  refine lv_iload_n hx hb dX3_read_1 rfl (lv_at hl 1 rfl) ?_
  refine lv_iload_n hx hb dX3_read_2 rfl (lv_at hl 2 rfl) ?_
  obtain ⟨r2, hc1, hf⟩ := bd1_some hf
  refine cV (X := List.take 0 (wX3 E a n)) (Y := List.drop 37 (wX3 E a n)) (w := (wX3 E a n)) (w' := (wX3 E a n)) (q0 := 0) lk_X3_194 hx hb hml hown hE hA (c_X3_refusalOf l E a n p1 p2 r2 hc1) rfl rfl hP hD hS rfl rfl ⟨rfl, rfl, Nat.le_of_ble_eq_true rfl, Nat.le_of_ble_eq_true rfl⟩ hl.1 (As := [.int p1, .int p2]) (rest := []) rfl rfl (Nat.le_of_ble_eq_true rfl) ⟨Nat.zero_le _, Nat.zero_le _⟩ dX3_read_3 (fun H locs hP hD hS => ?_)
  refine W.eq (g2 := F0 m 6 ls [.int r2]) rfl ?_
  refine lv_istore_n (lv' := [(3, .int r2), (0, .ref ((a 8) 0)), (1, .int p1), (2, .int p2)]) hx hb dX3_read_6 rfl hl (by decide) rfl (fun ls hl => ?_)
  refine lv_iload_n hx hb dX3_read_7 rfl (lv_at hl 0 rfl) ?_
  refine lv_if_eq (tgt := 17) hx hb dX3_read_8 (by decide) (fun c3 => ?_) (fun c3 => ?_)
  · have hf := ip c3 hf
    refine lv_iconst (v := (0 : Int32)) hx hb dX3_read_17 (by decide) ?_
    refine lv_istore (lv' := [(4, .int (0 : Int32)), (3, .int r2), (0, .ref ((a 8) 0)), (1, .int p1), (2, .int p2)]) hx hb dX3_read_18 hl (by decide) rfl (fun ls hl => ?_)
    refine lv_iconst (v := (0 : Int32)) hx hb dX3_read_20 (by decide) ?_
    refine lv_istore (lv' := [(5, .int (0 : Int32)), (4, .int (0 : Int32)), (3, .int r2), (0, .ref ((a 8) 0)), (1, .int p1), (2, .int p2)]) hx hb dX3_read_21 hl (by decide) rfl (fun ls hl => ?_)
    have L_4 : ∀ (k_4 : Nat) (v5_4 : Int32) (v4_4 : Int32) (n_4 : NS), lp_X3_read_23 p1 p2 k_4 v5_4 v4_4 n_4 = some (r, n') → ∀ (H : Heap) (locs : List Loc) (ls : Array Slot), va_P E.1 vwCl (wX3 E a n_4) H → va_D A (wX3 E a n_4) → va_S A s.heap H locs → lv_has ls 7 [(5, .int v5_4), (4, .int v4_4), (3, .int r2), (0, .ref ((a 8) 0)), (1, .int p1), (2, .int p2)] → W p l e (rmk 5 109) s m [.ref ((a 8) 0), .int p1, .int p2].toArray below meth c H locs 0 0 (MQ below (Qct E A (wX3 E a n') (some (.int r))) [.ref ((a 8) 0), .int p1, .int p2].toArray s 0 0 A) (F0 m 23 ls []) := by
      intro k_4
      induction k_4 with
      | zero =>
        intro v5_4 v4_4 n_4 hf
        rw [lp_X3_read_23] at hf
        cases hf
      | succ k_4 ih_4 =>
        intro v5_4 v4_4 n_4 hf H locs ls hP hD hS hl
        rw [lp_X3_read_23] at hf
        refine lv_iload hx hb dX3_read_23 (lv_at hl 0 rfl) ?_
        refine lv_bipush (v := (6 : Int32)) hx hb dX3_read_25 (by decide) ?_
        refine lv_icmp_ge (tgt := 95) hx hb dX3_read_27 (by decide) (fun c5 => ?_) (fun c5 => ?_)
        · have hf := ip c5 hf
          refine lv_iload hx hb dX3_read_95 (lv_at hl 1 rfl) ?_
          obtain ⟨rfl, rfl⟩ := so2 hf
          exact rt_i hx hb hr hlocks hP hD hS dX3_read_97
        · have hf := im c5 hf
          refine lv_iconst (v := (0 : Int32)) hx hb dX3_read_30 (by decide) ?_
          refine lv_istore (lv' := [(6, .int (0 : Int32)), (5, .int v5_4), (4, .int v4_4), (3, .int r2), (0, .ref ((a 8) 0)), (1, .int p1), (2, .int p2)]) hx hb dX3_read_31 hl (by decide) rfl (fun ls hl => ?_)
          have hX : ∀ (H : Heap) (locs : List Loc) (ls : Array Slot) (v6_23 : Int32) (v4_23 : Int32) (n_23 : NS), (fun (v6_23 : Int32) (v4_23 : Int32) (n_23 : NS) => lp_X3_read_23 p1 p2 k_4 (v5_4 + (1 : Int32)) v4_23 n_23) v6_23 v4_23 n_23 = some (r, n') → va_P E.1 vwCl (wX3 E a n_23) H → va_D A (wX3 E a n_23) → va_S A s.heap H locs → lv_has ls 7 [(6, .int v6_23), (5, .int v5_4), (4, .int v4_23), (3, .int r2), (0, .ref ((a 8) 0)), (1, .int p1), (2, .int p2)] → W p l e (rmk 5 109) s m [.ref ((a 8) 0), .int p1, .int p2].toArray below meth c H locs 0 0 (MQ below (Qct E A (wX3 E a n') (some (.int r))) [.ref ((a 8) 0), .int p1, .int p2].toArray s 0 0 A) (F0 m 89 ls []) := by
            intro H locs ls v6_23 v4_23 n_23 hf hP hD hS hl
            refine lv_iinc (v := (v5_4 + (1 : Int32))) (lv' := [(5, .int (v5_4 + (1 : Int32))), (6, .int v6_23), (4, .int v4_23), (3, .int r2), (0, .ref ((a 8) 0)), (1, .int p1), (2, .int p2)]) hx hb dX3_read_89 hl (k := 1) rfl rfl (by decide) rfl (fun ls hl => ?_)
            refine lv_goto (tgt := 23) hx hb dX3_read_92 (by decide) ?_
            exact ih_4 _ _ _ hf _ _ _ hP hD hS (lv_sub hl [0, 2, 3, 4, 5, 6] rfl)
          generalize (fun (v6_23 : Int32) (v4_23 : Int32) (n_23 : NS) => lp_X3_read_23 p1 p2 k_4 (v5_4 + (1 : Int32)) v4_23 n_23) = K at hf hX ⊢
          have L_6 : ∀ (k_6 : Nat) (v6_6 : Int32) (v4_6 : Int32) (n_6 : NS), lp_X3_read_33 p1 p2 v5_4 K k_6 v6_6 v4_6 n_6 = some (r, n') → ∀ (H : Heap) (locs : List Loc) (ls : Array Slot), va_P E.1 vwCl (wX3 E a n_6) H → va_D A (wX3 E a n_6) → va_S A s.heap H locs → lv_has ls 7 [(6, .int v6_6), (5, .int v5_4), (4, .int v4_6), (3, .int r2), (0, .ref ((a 8) 0)), (1, .int p1), (2, .int p2)] → W p l e (rmk 5 109) s m [.ref ((a 8) 0), .int p1, .int p2].toArray below meth c H locs 0 0 (MQ below (Qct E A (wX3 E a n') (some (.int r))) [.ref ((a 8) 0), .int p1, .int p2].toArray s 0 0 A) (F0 m 33 ls []) := by
            intro k_6
            induction k_6 with
            | zero =>
              intro v6_6 v4_6 n_6 hf
              rw [lp_X3_read_33] at hf
              cases hf
            | succ k_6 ih_6 =>
              intro v6_6 v4_6 n_6 hf H locs ls hP hD hS hl
              rw [lp_X3_read_33] at hf
              refine lv_iload hx hb dX3_read_33 (lv_at hl 0 rfl) ?_
              refine lv_bipush (v := (99 : Int32)) hx hb dX3_read_35 (by decide) ?_
              refine lv_icmp_gt (tgt := 89) hx hb dX3_read_37 (by decide) (fun c7 => ?_) (fun c7 => ?_)
              · have hf := ip c7 hf
                exact hX _ _ _ _ _ _ hf hP hD hS (lv_sub hl [0, 1, 2, 3, 4, 5, 6] rfl)
              · have hf := im c7 hf
                refine lv_aload_n hx hb dX3_read_40 rfl (lv_at hl 4 rfl) ?_
                obtain ⟨n9, hc8, hf⟩ := bd1_some hf
                refine cV (X := List.take 0 (wX3 E a n_6)) (Y := List.drop 37 (wX3 E a n_6)) (w := (wX3 E a n_6)) (w' := (wX3 E a n9)) (q0 := 0) lk_X3_124 hx hb hml hown hE hA (c_X3_startTrial l E a n_6 n9 hc8) rfl rfl hP hD hS rfl rfl ⟨rfl, rfl, Nat.le_of_ble_eq_true rfl, Nat.le_of_ble_eq_true rfl⟩ hl.1 (As := []) (rest := []) rfl rfl (Nat.le_of_ble_eq_true rfl) ⟨Nat.zero_le _, Nat.zero_le _⟩ dX3_read_41 (fun H locs hP hD hS => ?_)
                refine W.eq (g2 := F0 m 44 ls []) rfl ?_
                refine lv_aload_n hx hb dX3_read_44 rfl (lv_at hl 4 rfl) ?_
                refine va_get (D := E.1) (ci := 3) (v := .ref ((a 1) 0)) (C := RX3) (T := TX3) (N := 7) hx hb hts inX3 hown hE.2.1 hP 0 rfl rfl 1 (by decide) (hE.w tw_120) (fun _ h9 => h9) rfl dX3_read_45 ?_
                refine va_getN (D := E.1) (ci := 0) (v := .ref ((a 1) 6)) (C := RX0) (T := TX0) (N := 10) hx hb hts inX0 hown hE.2.1 hP 17 rfl rfl 5 (by decide) (hE.w tw_40) (fun _ h9 => h9) rfl dX3_read_48 ?_
                refine lv_iload_n hx hb dX3_read_51 rfl (lv_at hl 6 rfl) ?_
                refine lv_iload hx hb dX3_read_52 (lv_at hl 1 rfl) ?_
                obtain ⟨hg10, hf⟩ := gd_some hf
                obtain ⟨n_11, en_11, hf⟩ := jn1_some hf
                refine va_iast hx hb hE.2.1 hP hD hS 20 0 rfl rfl hg10 dX3_read_54 (fun H locs hP hD hS => ?_)
                have hP : va_P E.1 vwCl (wX3 E a n_11) H := wst (by rw [en_11]; exact rfl) hP
                have hD : va_D A (wX3 E a n_11) := wsd (by rw [en_11]; exact rfl) hD
                refine lv_aload_n hx hb dX3_read_55 rfl (lv_at hl 4 rfl) ?_
                refine va_get (D := E.1) (ci := 3) (v := .ref ((a 1) 0)) (C := RX3) (T := TX3) (N := 7) hx hb hts inX3 hown hE.2.1 hP 0 rfl rfl 1 (by decide) (hE.w tw_120) (fun _ h9 => h9) rfl dX3_read_56 ?_
                refine va_getN (D := E.1) (ci := 0) (v := .ref ((a 1) 7)) (C := RX0) (T := TX0) (N := 10) hx hb hts inX0 hown hE.2.1 hP 17 rfl rfl 6 (by decide) (hE.w tw_43) (fun _ h9 => h9) rfl dX3_read_59 ?_
                refine lv_iload_n hx hb dX3_read_62 rfl (lv_at hl 6 rfl) ?_
                refine lv_iload hx hb dX3_read_63 (lv_at hl 0 rfl) ?_
                obtain ⟨hg12, hf⟩ := gd_some hf
                obtain ⟨n_13, en_13, hf⟩ := jn1_some hf
                refine va_iast hx hb hE.2.1 hP hD hS 21 0 rfl rfl hg12 dX3_read_65 (fun H locs hP hD hS => ?_)
                have hP : va_P E.1 vwCl (wX3 E a n_13) H := wst (by rw [en_13]; exact rfl) hP
                have hD : va_D A (wX3 E a n_13) := wsd (by rw [en_13]; exact rfl) hD
                refine lv_aload_n hx hb dX3_read_66 rfl (lv_at hl 4 rfl) ?_
                refine lv_aload_n hx hb dX3_read_67 rfl (lv_at hl 4 rfl) ?_
                refine va_get (D := E.1) (ci := 3) (v := .ref (a 8 1)) (C := RX3) (T := TX3) (N := 7) hx hb hts inX3 hown hE.2.1 hP 0 rfl rfl 5 (by decide) (hE.w tw_124) (fun _ h9 => h9) rfl dX3_read_68 ?_
                refine lv_iload_n hx hb dX3_read_71 rfl (lv_at hl 5 rfl) ?_
                obtain ⟨hg14, hf⟩ := gd_some hf
                have hk15 := vp_lt hg14
                refine va_aldq hx hb hE.2.1 hP 27 3 rfl rfl hg14 dX3_read_72 ?_
                refine W.eq (g2 := F0 m 73 ls [.ref (a (4 + p1.toNatClampNeg) 0), .ref ((a 8) 0)]) rfl ?_
                refine lv_iload_n hx hb dX3_read_73 rfl (lv_at hl 6 rfl) ?_
                obtain ⟨r17, n18, hc16, hf⟩ := bd2_some hf
                refine cV (X := List.take 0 (wX3 E a n_13)) (Y := List.drop 37 (wX3 E a n_13)) (w := (wX3 E a n_13)) (w' := (wX3 E a n18)) (q0 := 0) lk_X3_197 hx hb hml hown hE hA (c_X3_trialDoesAs l E a n_13 (p1.toNatClampNeg) p2 hk15 r17 n18 hc16) rfl rfl hP hD hS rfl rfl ⟨rfl, rfl, Nat.le_of_ble_eq_true rfl, Nat.le_of_ble_eq_true rfl⟩ hl.1 (As := [.ref (a (4 + p1.toNatClampNeg) 0), .int p2]) (rest := []) rfl rfl (Nat.le_of_ble_eq_true rfl) ⟨Nat.zero_le _, Nat.zero_le _⟩ dX3_read_74 (fun H locs hP hD hS => ?_)
                refine W.eq (g2 := F0 m 77 ls [.int (bI r17)]) rfl ?_
                obtain ⟨x20, hq22, hf⟩ := jn1_some hf
                have J21 : ∀ (H : Heap) (locs : List Loc) (ls : Array Slot), va_P E.1 vwCl (wX3 E a n18) H → va_D A (wX3 E a n18) → va_S A s.heap H locs → lv_has ls 7 [(6, .int v6_6), (5, .int v5_4), (4, .int x20), (3, .int r2), (0, .ref ((a 8) 0)), (1, .int p1), (2, .int p2)] → W p l e (rmk 5 109) s m [.ref ((a 8) 0), .int p1, .int p2].toArray below meth c H locs 0 0 (MQ below (Qct E A (wX3 E a n') (some (.int r))) [.ref ((a 8) 0), .int p1, .int p2].toArray s 0 0 A) (F0 m 83 ls []) := by
                  intro H locs ls hP hD hS hl
                  refine lv_iinc (v := (v6_6 + (1 : Int32))) (lv' := [(6, .int (v6_6 + (1 : Int32))), (5, .int v5_4), (4, .int x20), (3, .int r2), (0, .ref ((a 8) 0)), (1, .int p1), (2, .int p2)]) hx hb dX3_read_83 hl (k := 0) rfl rfl (by decide) rfl (fun ls hl => ?_)
                  refine lv_goto (tgt := 33) hx hb dX3_read_86 (by decide) ?_
                  exact ih_6 _ _ _ hf _ _ _ hP hD hS (lv_sub hl [0, 1, 2, 3, 4, 5, 6] rfl)
                refine lv_if_eq (tgt := 83) hx hb dX3_read_77 (by decide) (fun c19 => ?_) (fun c19 => ?_)
                · have hq22 := ie c19 hq22
                  obtain rfl := pj1 hq22
                  exact J21 _ _ _ hP hD hS (lv_sub hl [0, 1, 2, 3, 4, 5, 6] rfl)
                · have hq22 := ien c19 hq22
                  refine lv_iinc (v := (v4_6 + (1 : Int32))) (lv' := [(4, .int (v4_6 + (1 : Int32))), (6, .int v6_6), (5, .int v5_4), (3, .int r2), (0, .ref ((a 8) 0)), (1, .int p1), (2, .int p2)]) hx hb dX3_read_80 hl (k := 2) rfl rfl (by decide) rfl (fun ls hl => ?_)
                  obtain rfl := pj1 hq22
                  exact J21 _ _ _ hP hD hS (lv_sub hl [1, 2, 0, 3, 4, 5, 6] rfl)
          exact L_6 _ _ _ _ hf _ _ _ hP hD hS (lv_sub hl [0, 1, 2, 3, 4, 5, 6] rfl)
    exact L_4 _ _ _ _ hf _ _ _ hP hD hS (lv_sub hl [0, 1, 2, 3, 4, 5] rfl)
  · have hf := im c3 hf
    refine lv_aload_n hx hb dX3_read_11 rfl (lv_at hl 1 rfl) ?_
    refine lv_iload_n hx hb dX3_read_12 rfl (lv_at hl 0 rfl) ?_
    obtain ⟨r25, n26, hc24, hf⟩ := bd2_some hf
    refine cV (X := List.take 0 (wX3 E a n)) (Y := List.drop 37 (wX3 E a n)) (w := (wX3 E a n)) (w' := (wX3 E a n26)) (q0 := 0) lk_X3_49 hx hb hml hown hE hA (c_X3_finding l E a n r2 r25 n26 hc24) rfl rfl hP hD hS rfl rfl ⟨rfl, rfl, Nat.le_of_ble_eq_true rfl, Nat.le_of_ble_eq_true rfl⟩ hl.1 (As := [.int r2]) (rest := []) rfl rfl (Nat.le_of_ble_eq_true rfl) ⟨Nat.zero_le _, Nat.zero_le _⟩ dX3_read_13 (fun H locs hP hD hS => ?_)
    refine W.eq (g2 := F0 m 16 ls [.int r25]) rfl ?_
    obtain ⟨rfl, rfl⟩ := so2 hf
    exact rt_i hx hb hr hlocks hP hD hS dX3_read_16
def f_X3_image (n : NS) : Option (Int32 × NS) := bd1 (f_X0_become_kh (g3_kept n) (g3_house n) (g3_trial n)) (fun k2 => jn1 (s3_kept n k2) (fun n_3 => jn1 (s3_keeps n_3 (1 : Int32)) (fun n_4 => some ((1 : Int32), n_4))))
set_option maxHeartbeats 4000000 in
set_option maxRecDepth 100000 in
theorem c_X3_image (l : Launch) (E : EV) (a : Nat → Nat → Nat) (n : NS)  (r : Int32) (n' : NS) (hf : f_X3_image n = some (r, n')) : Ct l E yX3_image cX3_image 1 ((Option.some FieldType.int)) (rmk 2 61) [.ref ((a 8) 0)] (wX3 E a n) (wX3 E a n') (some (.int r)) := by
  refine Ct.of (by decide) (Nat.le_of_ble_eq_true rfl) ?_
  intro p e s m below meth c A ls hC hP hD hl
  obtain ⟨hx, hb, hr, hml, hown, hlocks, hE, hA⟩ := hC
  have hts : ∀ w ∈ tbl, w.before [.ref ((a 8) 0)].toArray s = true := fun w hw => hE.w hw
  have hS : va_S A s.heap s.heap [] := va_S.rf
  have hl : lv_has ls 1 [(0, .ref ((a 8) 0))] := hl
  unfold f_X3_image at hf
  refine lv_aload_n hx hb dX3_image_0 rfl (lv_at hl 0 rfl) ?_
  refine va_get (D := E.1) (ci := 3) (v := .ref ((a 2) 0)) (C := RX3) (T := TX3) (N := 7) hx hb hts inX3 hown hE.2.1 hP 0 rfl rfl 2 (by decide) (hE.w tw_121) (fun _ h9 => h9) rfl dX3_image_1 ?_
  refine lv_aload_n hx hb dX3_image_4 rfl (lv_at hl 0 rfl) ?_
  refine va_get (D := E.1) (ci := 3) (v := .ref ((a 0) 0)) (C := RX3) (T := TX3) (N := 7) hx hb hts inX3 hown hE.2.1 hP 0 rfl rfl 0 (by decide) (hE.w tw_119) (fun _ h9 => h9) rfl dX3_image_5 ?_
  obtain ⟨k2, hc1, hf⟩ := bd1_some hf
  obtain ⟨n_3, en_3, hf⟩ := jn1_some hf
  refine cVN (X := List.take 1 (wX3 E a n)) (Y := List.drop 25 (wX3 E a n)) (w := (wX3 E a n)) (w' := (wX3 E a n_3)) (q0 := 0) lk_X3_153 hx hb hml hown hE hA (c_X0_become_kh l E (a 2) (a 0) (a 1) (g3_kept n) (g3_house n) (g3_trial n) k2 hc1) rfl (by rw [en_3]; rfl) hP hD hS rfl rfl ⟨rfl, rfl, Nat.le_of_ble_eq_true rfl, Nat.le_of_ble_eq_true rfl⟩ hl.1 (As := [.ref ((a 0) 0)]) (rest := []) rfl rfl (Nat.le_of_ble_eq_true rfl) ⟨Nat.zero_le _, Nat.zero_le _⟩ dX3_image_8 (fun H locs hP hD hS => ?_)
  refine W.eq (g2 := F0 m 11 ls []) rfl ?_
  refine lv_aload_n hx hb dX3_image_11 rfl (lv_at hl 0 rfl) ?_
  refine lv_iconst (v := (1 : Int32)) hx hb dX3_image_12 (by decide) ?_
  obtain ⟨n_4, en_4, hf⟩ := jn1_some hf
  refine va_put (D := E.1) (ci := 3) (v := .int (1 : Int32)) (ty := .boolean) (C := RX3) (T := TX3) (N := 7) hx hb hts inX3 tyX3 tyX3_ok nmX3 hown hE.2.1 hP hD hS 0 rfl rfl 3 (by decide) (hE.w tw_122) (fun _ h9 => h9) rfl (by decide +kernel) (by decide) (by decide) (Nat.le_of_ble_eq_true rfl) dX3_image_13 (fun H locs hP hD hS => ?_)
  have hP : va_P E.1 vwCl (wX3 E a n_4) H := wst (by rw [en_4]; exact rfl) hP
  have hD : va_D A (wX3 E a n_4) := wsd (by rw [en_4]; exact rfl) hD
  refine lv_iconst (v := (1 : Int32)) hx hb dX3_image_16 (by decide) ?_
  obtain ⟨rfl, rfl⟩ := so2 hf
  exact rt_i hx hb hr hlocks hP hD hS dX3_image_17
def f_X3_undo (n : NS) : Option (Int32 × NS) := if (g3_keeps n) = 0 then bd2 (f_X3_finding n (-1000000004 : Int32)) (fun r6 n7 => some (r6, n7)) else bd1 (f_X0_become_hk (g3_kept n) (g3_house n) (g3_trial n)) (fun h3 => jn1 (s3_house n h3) (fun n_4 => some ((g0_people (g3_house n_4)), n_4)))
set_option maxHeartbeats 4000000 in
set_option maxRecDepth 100000 in
theorem c_X3_undo (l : Launch) (E : EV) (a : Nat → Nat → Nat) (n : NS)  (r : Int32) (n' : NS) (hf : f_X3_undo n = some (r, n')) : Ct l E yX3_undo cX3_undo 1 ((Option.some FieldType.int)) (rmk 2 61) [.ref ((a 8) 0)] (wX3 E a n) (wX3 E a n') (some (.int r)) := by
  refine Ct.of (by decide) (Nat.le_of_ble_eq_true rfl) ?_
  intro p e s m below meth c A ls hC hP hD hl
  obtain ⟨hx, hb, hr, hml, hown, hlocks, hE, hA⟩ := hC
  have hts : ∀ w ∈ tbl, w.before [.ref ((a 8) 0)].toArray s = true := fun w hw => hE.w hw
  have hS : va_S A s.heap s.heap [] := va_S.rf
  have hl : lv_has ls 1 [(0, .ref ((a 8) 0))] := hl
  unfold f_X3_undo at hf
  refine lv_aload_n hx hb dX3_undo_0 rfl (lv_at hl 0 rfl) ?_
  refine va_get (D := E.1) (ci := 3) (v := .int (g3_keeps n)) (C := RX3) (T := TX3) (N := 7) hx hb hts inX3 hown hE.2.1 hP 0 rfl rfl 3 (by decide) (hE.w tw_122) (fun _ h9 => h9) rfl dX3_undo_1 ?_
  refine lv_if_ne (tgt := 14) hx hb dX3_undo_4 (by decide) (fun c1 => ?_) (fun c1 => ?_)
  · have hf := im c1 hf
    refine lv_aload_n hx hb dX3_undo_14 rfl (lv_at hl 0 rfl) ?_
    refine va_get (D := E.1) (ci := 3) (v := .ref ((a 0) 0)) (C := RX3) (T := TX3) (N := 7) hx hb hts inX3 hown hE.2.1 hP 0 rfl rfl 0 (by decide) (hE.w tw_119) (fun _ h9 => h9) rfl dX3_undo_15 ?_
    refine lv_aload_n hx hb dX3_undo_18 rfl (lv_at hl 0 rfl) ?_
    refine va_get (D := E.1) (ci := 3) (v := .ref ((a 2) 0)) (C := RX3) (T := TX3) (N := 7) hx hb hts inX3 hown hE.2.1 hP 0 rfl rfl 2 (by decide) (hE.w tw_121) (fun _ h9 => h9) rfl dX3_undo_19 ?_
    obtain ⟨h3, hc2, hf⟩ := bd1_some hf
    obtain ⟨n_4, en_4, hf⟩ := jn1_some hf
    refine cVN (X := List.take 1 (wX3 E a n)) (Y := List.drop 25 (wX3 E a n)) (w := (wX3 E a n)) (w' := (wX3 E a n_4)) (q0 := 8) lk_X3_153 hx hb hml hown hE hA (c_X0_become_hk l E (a 2) (a 0) (a 1) (g3_kept n) (g3_house n) (g3_trial n) h3 hc2) rfl (by rw [en_4]; rfl) hP hD hS rfl rfl ⟨rfl, rfl, Nat.le_of_ble_eq_true rfl, Nat.le_of_ble_eq_true rfl⟩ hl.1 (As := [.ref ((a 2) 0)]) (rest := []) rfl rfl (Nat.le_of_ble_eq_true rfl) ⟨Nat.zero_le _, Nat.zero_le _⟩ dX3_undo_22 (fun H locs hP hD hS => ?_)
    refine W.eq (g2 := F0 m 25 ls []) rfl ?_
    refine lv_aload_n hx hb dX3_undo_25 rfl (lv_at hl 0 rfl) ?_
    refine va_get (D := E.1) (ci := 3) (v := .ref ((a 0) 0)) (C := RX3) (T := TX3) (N := 7) hx hb hts inX3 hown hE.2.1 hP 0 rfl rfl 0 (by decide) (hE.w tw_119) (fun _ h9 => h9) rfl dX3_undo_26 ?_
    refine va_getN (D := E.1) (ci := 0) (v := .int (g0_people (g3_house n_4))) (C := RX0) (T := TX0) (N := 10) hx hb hts inX0 hown hE.2.1 hP 9 rfl rfl 2 (by decide) (hE.w tw_31) (fun _ h9 => h9) rfl dX3_undo_29 ?_
    obtain ⟨rfl, rfl⟩ := so2 hf
    exact rt_i hx hb hr hlocks hP hD hS dX3_undo_32
  · have hf := ip c1 hf
    refine lv_aload_n hx hb dX3_undo_7 rfl (lv_at hl 0 rfl) ?_
    refine lv_ldc (v := (-1000000004 : Int32)) hx hb hown (hE.w tw_328) dX3_undo_8 ?_
    obtain ⟨r6, n7, hc5, hf⟩ := bd2_some hf
    refine cV (X := List.take 0 (wX3 E a n)) (Y := List.drop 37 (wX3 E a n)) (w := (wX3 E a n)) (w' := (wX3 E a n7)) (q0 := 0) lk_X3_49 hx hb hml hown hE hA (c_X3_finding l E a n (-1000000004 : Int32) r6 n7 hc5) rfl rfl hP hD hS rfl rfl ⟨rfl, rfl, Nat.le_of_ble_eq_true rfl, Nat.le_of_ble_eq_true rfl⟩ hl.1 (As := [.int (-1000000004 : Int32)]) (rest := []) rfl rfl (Nat.le_of_ble_eq_true rfl) ⟨Nat.zero_le _, Nat.zero_le _⟩ dX3_undo_10 (fun H locs hP hD hS => ?_)
    refine W.eq (g2 := F0 m 13 ls [.int r6]) rfl ?_
    obtain ⟨rfl, rfl⟩ := so2 hf
    exact rt_i hx hb hr hlocks hP hD hS dX3_undo_13
def f_X3_tear (n : NS) : Option (Int32 × NS) := jn1 (if (g3_keeps n) = 0 then ((0 : Int32)) else ((1 : Int32))) (fun x2 => jn1 (s3_keeps n (0 : Int32)) (fun n_5 => some (x2, n_5)))
set_option maxHeartbeats 4000000 in
set_option maxRecDepth 100000 in
theorem c_X3_tear (l : Launch) (E : EV) (a : Nat → Nat → Nat) (n : NS)  (r : Int32) (n' : NS) (hf : f_X3_tear n = some (r, n')) : Ct l E yX3_tear cX3_tear 2 ((Option.some FieldType.int)) (rmk 0 0) [.ref ((a 8) 0)] (wX3 E a n) (wX3 E a n') (some (.int r)) := by
  refine Ct.of (by decide) (Nat.le_of_ble_eq_true rfl) ?_
  intro p e s m below meth c A ls hC hP hD hl
  obtain ⟨hx, hb, hr, hml, hown, hlocks, hE, hA⟩ := hC
  have hts : ∀ w ∈ tbl, w.before [.ref ((a 8) 0)].toArray s = true := fun w hw => hE.w hw
  have hS : va_S A s.heap s.heap [] := va_S.rf
  have hl : lv_has ls 2 [(0, .ref ((a 8) 0))] := hl
  unfold f_X3_tear at hf
  refine lv_aload_n hx hb dX3_tear_0 rfl (lv_at hl 0 rfl) ?_
  refine va_get (D := E.1) (ci := 3) (v := .int (g3_keeps n)) (C := RX3) (T := TX3) (N := 7) hx hb hts inX3 hown hE.2.1 hP 0 rfl rfl 3 (by decide) (hE.w tw_122) (fun _ h9 => h9) rfl dX3_tear_1 ?_
  obtain ⟨x2, hq4, hf⟩ := jn1_some hf
  have J3 : ∀ (H : Heap) (locs : List Loc) (ls : Array Slot), va_P E.1 vwCl (wX3 E a n) H → va_D A (wX3 E a n) → va_S A s.heap H locs → lv_has ls 2 [(0, .ref ((a 8) 0))] → W p l e (rmk 0 0) s m [.ref ((a 8) 0)].toArray below meth c H locs 0 0 (MQ below (Qct E A (wX3 E a n') (some (.int r))) [.ref ((a 8) 0)].toArray s 0 0 A) (F0 m 12 ls [.int x2]) := by
    intro H locs ls hP hD hS hl
    refine lv_istore_n (lv' := [(1, .int x2), (0, .ref ((a 8) 0))]) hx hb dX3_tear_12 rfl hl (by decide) rfl (fun ls hl => ?_)
    refine lv_aload_n hx hb dX3_tear_13 rfl (lv_at hl 1 rfl) ?_
    refine lv_iconst (v := (0 : Int32)) hx hb dX3_tear_14 (by decide) ?_
    obtain ⟨n_5, en_5, hf⟩ := jn1_some hf
    refine va_put (D := E.1) (ci := 3) (v := .int (0 : Int32)) (ty := .boolean) (C := RX3) (T := TX3) (N := 7) hx hb hts inX3 tyX3 tyX3_ok nmX3 hown hE.2.1 hP hD hS 0 rfl rfl 3 (by decide) (hE.w tw_122) (fun _ h9 => h9) rfl (by decide +kernel) (by decide) (by decide) (Nat.le_of_ble_eq_true rfl) dX3_tear_15 (fun H locs hP hD hS => ?_)
    have hP : va_P E.1 vwCl (wX3 E a n_5) H := wst (by rw [en_5]; exact rfl) hP
    have hD : va_D A (wX3 E a n_5) := wsd (by rw [en_5]; exact rfl) hD
    refine lv_iload_n hx hb dX3_tear_18 rfl (lv_at hl 0 rfl) ?_
    obtain ⟨rfl, rfl⟩ := so2 hf
    exact rt_i hx hb hr hlocks hP hD hS dX3_tear_19
  refine lv_if_eq (tgt := 11) hx hb dX3_tear_4 (by decide) (fun c1 => ?_) (fun c1 => ?_)
  · have hq4 := ie c1 hq4
    refine lv_iconst (v := (0 : Int32)) hx hb dX3_tear_11 (by decide) ?_
    obtain rfl := pj1 hq4
    exact J3 _ _ _ hP hD hS (lv_sub hl [0] rfl)
  · have hq4 := ien c1 hq4
    refine lv_iconst (v := (1 : Int32)) hx hb dX3_tear_7 (by decide) ?_
    refine lv_goto (tgt := 12) hx hb dX3_tear_8 (by decide) ?_
    obtain rfl := pj1 hq4
    exact J3 _ _ _ hP hD hS (lv_sub hl [0] rfl)
def f_X3_count (n : NS) (p1 : Int32) : Option (Int32 × NS) := if p1 = (0 : Int32) then some ((g0_people (g3_house n)), n) else if p1 = (1 : Int32) then some ((g2_length (g3_tape n)), n) else if p1 = (2 : Int32) then bd1 (f_X0_allTense (g3_house n)) (fun r5 => some (r5, n)) else if p1 = (3 : Int32) then bd1 (f_X0_allFresh (g3_house n)) (fun r8 => some (r8, n)) else bd2 (f_X3_finding n (-1000000001 : Int32)) (fun r10 n11 => some (r10, n11))
set_option maxHeartbeats 4000000 in
set_option maxRecDepth 100000 in
theorem c_X3_count (l : Launch) (E : EV) (a : Nat → Nat → Nat) (n : NS) (p1 : Int32)  (r : Int32) (n' : NS) (hf : f_X3_count n p1 = some (r, n')) : Ct l E yX3_count cX3_count 2 ((Option.some FieldType.int)) (rmk 2 43) [.ref ((a 8) 0), .int p1] (wX3 E a n) (wX3 E a n') (some (.int r)) := by
  refine Ct.of (by decide) (Nat.le_of_ble_eq_true rfl) ?_
  intro p e s m below meth c A ls hC hP hD hl
  obtain ⟨hx, hb, hr, hml, hown, hlocks, hE, hA⟩ := hC
  have hts : ∀ w ∈ tbl, w.before [.ref ((a 8) 0), .int p1].toArray s = true := fun w hw => hE.w hw
  have hS : va_S A s.heap s.heap [] := va_S.rf
  have hl : lv_has ls 2 [(0, .ref ((a 8) 0)), (1, .int p1)] := hl
  unfold f_X3_count at hf
  refine lv_iload_n hx hb dX3_count_0 rfl (lv_at hl 1 rfl) ?_
  by_cases c1 : p1 = (0 : Int32)
  · have hf := ip c1 hf
    refine lv_tableIn (off := 31) (tgt := 32) hx hb dX3_count_1 (by rw [c1]; decide) (by rw [c1]; decide) (by rw [c1]; rfl) (by decide) ?_
    refine lv_aload_n hx hb dX3_count_32 rfl (lv_at hl 0 rfl) ?_
    refine va_get (D := E.1) (ci := 3) (v := .ref ((a 0) 0)) (C := RX3) (T := TX3) (N := 7) hx hb hts inX3 hown hE.2.1 hP 0 rfl rfl 0 (by decide) (hE.w tw_119) (fun _ h9 => h9) rfl dX3_count_33 ?_
    refine va_getN (D := E.1) (ci := 0) (v := .int (g0_people (g3_house n))) (C := RX0) (T := TX0) (N := 10) hx hb hts inX0 hown hE.2.1 hP 9 rfl rfl 2 (by decide) (hE.w tw_31) (fun _ h9 => h9) rfl dX3_count_36 ?_
    obtain ⟨rfl, rfl⟩ := so2 hf
    exact rt_i hx hb hr hlocks hP hD hS dX3_count_39
  have hf := im c1 hf
  by_cases c2 : p1 = (1 : Int32)
  · have hf := ip c2 hf
    refine lv_tableIn (off := 39) (tgt := 40) hx hb dX3_count_1 (by rw [c2]; decide) (by rw [c2]; decide) (by rw [c2]; rfl) (by decide) ?_
    refine lv_aload_n hx hb dX3_count_40 rfl (lv_at hl 0 rfl) ?_
    refine va_get (D := E.1) (ci := 3) (v := .ref ((a 3) 0)) (C := RX3) (T := TX3) (N := 7) hx hb hts inX3 hown hE.2.1 hP 0 rfl rfl 4 (by decide) (hE.w tw_123) (fun _ h9 => h9) rfl dX3_count_41 ?_
    refine va_getN (D := E.1) (ci := 2) (v := .int (g2_length (g3_tape n))) (C := RX2) (T := TX2) (N := 6) hx hb hts inX2 hown hE.2.1 hP 25 rfl rfl 1 (by decide) (hE.w tw_79) (fun _ h9 => h9) rfl dX3_count_44 ?_
    obtain ⟨rfl, rfl⟩ := so2 hf
    exact rt_i hx hb hr hlocks hP hD hS dX3_count_47
  have hf := im c2 hf
  by_cases c3 : p1 = (2 : Int32)
  · have hf := ip c3 hf
    refine lv_tableIn (off := 47) (tgt := 48) hx hb dX3_count_1 (by rw [c3]; decide) (by rw [c3]; decide) (by rw [c3]; rfl) (by decide) ?_
    refine lv_aload_n hx hb dX3_count_48 rfl (lv_at hl 0 rfl) ?_
    refine va_get (D := E.1) (ci := 3) (v := .ref ((a 0) 0)) (C := RX3) (T := TX3) (N := 7) hx hb hts inX3 hown hE.2.1 hP 0 rfl rfl 0 (by decide) (hE.w tw_119) (fun _ h9 => h9) rfl dX3_count_49 ?_
    obtain ⟨r5, hc4, hf⟩ := bd1_some hf
    refine cVN (X := List.take 9 (wX3 E a n)) (Y := List.drop 17 (wX3 E a n)) (w := (wX3 E a n)) (w' := (wX3 E a n)) (q0 := 0) lk_X3_201 hx hb hml hown hE hA (c_X0_allTense l E (a 0) (g3_house n) r5 hc4) rfl rfl hP hD hS rfl rfl ⟨rfl, rfl, Nat.le_of_ble_eq_true rfl, Nat.le_of_ble_eq_true rfl⟩ hl.1 (As := []) (rest := []) rfl rfl (Nat.le_of_ble_eq_true rfl) ⟨Nat.zero_le _, Nat.zero_le _⟩ dX3_count_52 (fun H locs hP hD hS => ?_)
    refine W.eq (g2 := F0 m 55 ls [.int r5]) rfl ?_
    obtain ⟨rfl, rfl⟩ := so2 hf
    exact rt_i hx hb hr hlocks hP hD hS dX3_count_55
  have hf := im c3 hf
  by_cases c6 : p1 = (3 : Int32)
  · have hf := ip c6 hf
    refine lv_tableIn (off := 55) (tgt := 56) hx hb dX3_count_1 (by rw [c6]; decide) (by rw [c6]; decide) (by rw [c6]; rfl) (by decide) ?_
    refine lv_aload_n hx hb dX3_count_56 rfl (lv_at hl 0 rfl) ?_
    refine va_get (D := E.1) (ci := 3) (v := .ref ((a 0) 0)) (C := RX3) (T := TX3) (N := 7) hx hb hts inX3 hown hE.2.1 hP 0 rfl rfl 0 (by decide) (hE.w tw_119) (fun _ h9 => h9) rfl dX3_count_57 ?_
    obtain ⟨r8, hc7, hf⟩ := bd1_some hf
    refine cVN (X := List.take 9 (wX3 E a n)) (Y := List.drop 17 (wX3 E a n)) (w := (wX3 E a n)) (w' := (wX3 E a n)) (q0 := 0) lk_X3_73 hx hb hml hown hE hA (c_X0_allFresh l E (a 0) (g3_house n) r8 hc7) rfl rfl hP hD hS rfl rfl ⟨rfl, rfl, Nat.le_of_ble_eq_true rfl, Nat.le_of_ble_eq_true rfl⟩ hl.1 (As := []) (rest := []) rfl rfl (Nat.le_of_ble_eq_true rfl) ⟨Nat.zero_le _, Nat.zero_le _⟩ dX3_count_60 (fun H locs hP hD hS => ?_)
    refine W.eq (g2 := F0 m 63 ls [.int r8]) rfl ?_
    obtain ⟨rfl, rfl⟩ := so2 hf
    exact rt_i hx hb hr hlocks hP hD hS dX3_count_63
  have hf := im c6 hf
  refine lv_tableOut (tgt := 64) hx hb dX3_count_1 (by have zc1 := lv_neT c1 (a := 0) (by decide); have zc2 := lv_neT c2 (a := 1) (by decide); have zc3 := lv_neT c3 (a := 2) (by decide); have zc6 := lv_neT c6 (a := 3) (by decide); omega) (by decide) ?_
  refine lv_aload_n hx hb dX3_count_64 rfl (lv_at hl 0 rfl) ?_
  refine lv_ldc (v := (-1000000001 : Int32)) hx hb hown (hE.w tw_148) dX3_count_65 ?_
  obtain ⟨r10, n11, hc9, hf⟩ := bd2_some hf
  refine cV (X := List.take 0 (wX3 E a n)) (Y := List.drop 37 (wX3 E a n)) (w := (wX3 E a n)) (w' := (wX3 E a n11)) (q0 := 0) lk_X3_49 hx hb hml hown hE hA (c_X3_finding l E a n (-1000000001 : Int32) r10 n11 hc9) rfl rfl hP hD hS rfl rfl ⟨rfl, rfl, Nat.le_of_ble_eq_true rfl, Nat.le_of_ble_eq_true rfl⟩ hl.1 (As := [.int (-1000000001 : Int32)]) (rest := []) rfl rfl (Nat.le_of_ble_eq_true rfl) ⟨Nat.zero_le _, Nat.zero_le _⟩ dX3_count_67 (fun H locs hP hD hS => ?_)
  refine W.eq (g2 := F0 m 70 ls [.int r10]) rfl ?_
  obtain ⟨rfl, rfl⟩ := so2 hf
  exact rt_i hx hb hr hlocks hP hD hS dX3_count_70
def lp_X3_status_32 (n : NS) : Nat → (Int32) → (Int32) → Option (Int32 × NS)
  | 0, _, _ => none
  | k_5 + 1, v3_5, v2_5 => if (7 : Int32) ≤ v3_5 then some (v2_5, n) else gd v3_5 7 (lp_X3_status_32 n k_5 (v3_5 + (1 : Int32)) (v2_5 + ((g3_found n) v3_5.toNatClampNeg)))
def f_X3_status (n : NS) (p1 : Int32) : Option (Int32 × NS) := bd1 (f_X3_isIn p1 (-1 : Int32) (6 : Int32)) (fun r2 => if (bI r2) = 0 then bd2 (f_X3_finding n (-1000000001 : Int32)) (fun r10 n11 => some (r10, n11)) else if p1 < 0 then lp_X3_status_32 n FU (0 : Int32) (0 : Int32) else gd p1 7 (some (((g3_found n) p1.toNatClampNeg), n)))
set_option maxHeartbeats 4000000 in
set_option maxRecDepth 100000 in
theorem c_X3_status (l : Launch) (E : EV) (a : Nat → Nat → Nat) (n : NS) (p1 : Int32)  (r : Int32) (n' : NS) (hf : f_X3_status n p1 = some (r, n')) : Ct l E yX3_status cX3_status 4 ((Option.some FieldType.int)) (rmk 1 22) [.ref ((a 8) 0), .int p1] (wX3 E a n) (wX3 E a n') (some (.int r)) := by
  refine Ct.of (by decide) (Nat.le_of_ble_eq_true rfl) ?_
  intro p e s m below meth c A ls hC hP hD hl
  obtain ⟨hx, hb, hr, hml, hown, hlocks, hE, hA⟩ := hC
  have hts : ∀ w ∈ tbl, w.before [.ref ((a 8) 0), .int p1].toArray s = true := fun w hw => hE.w hw
  have hS : va_S A s.heap s.heap [] := va_S.rf
  have hl : lv_has ls 4 [(0, .ref ((a 8) 0)), (1, .int p1)] := hl
  unfold f_X3_status at hf
  refine lv_iload_n hx hb dX3_status_0 rfl (lv_at hl 1 rfl) ?_
  refine lv_iconst (v := (-1 : Int32)) hx hb dX3_status_1 (by decide) ?_
  refine lv_bipush (v := (6 : Int32)) hx hb dX3_status_2 (by decide) ?_
  obtain ⟨r2, hc1, hf⟩ := bd1_some hf
  refine cS (X := List.take 0 (wX3 E a n)) (Y := List.drop 0 (wX3 E a n)) (w := (wX3 E a n)) (w' := (wX3 E a n)) lk_X3_44 hx hb hml hown hE hA (c_X3_isIn l E p1 (-1 : Int32) (6 : Int32) r2 hc1) rfl rfl hP hD hS ⟨rfl, rfl, Nat.le_of_ble_eq_true rfl, Nat.le_of_ble_eq_true rfl⟩ hl.1 (As := [.int p1, .int (-1 : Int32), .int (6 : Int32)]) (rest := []) rfl rfl (Nat.le_of_ble_eq_true rfl) ⟨Nat.zero_le _, Nat.zero_le _⟩ dX3_status_4 (fun H locs hP hD hS => ?_)
  refine W.eq (g2 := F0 m 7 ls [.int (bI r2)]) rfl ?_
  refine lv_if_ne (tgt := 17) hx hb dX3_status_7 (by decide) (fun c3 => ?_) (fun c3 => ?_)
  · have hf := im c3 hf
    refine lv_iload_n hx hb dX3_status_17 rfl (lv_at hl 1 rfl) ?_
    refine lv_if_lt (tgt := 28) hx hb dX3_status_18 (by decide) (fun c4 => ?_) (fun c4 => ?_)
    · have hf := ip c4 hf
      refine lv_iconst (v := (0 : Int32)) hx hb dX3_status_28 (by decide) ?_
      refine lv_istore_n (lv' := [(2, .int (0 : Int32)), (0, .ref ((a 8) 0)), (1, .int p1)]) hx hb dX3_status_29 rfl hl (by decide) rfl (fun ls hl => ?_)
      refine lv_iconst (v := (0 : Int32)) hx hb dX3_status_30 (by decide) ?_
      refine lv_istore_n (lv' := [(3, .int (0 : Int32)), (2, .int (0 : Int32)), (0, .ref ((a 8) 0)), (1, .int p1)]) hx hb dX3_status_31 rfl hl (by decide) rfl (fun ls hl => ?_)
      have L_5 : ∀ (k_5 : Nat) (v3_5 : Int32) (v2_5 : Int32), lp_X3_status_32 n k_5 v3_5 v2_5 = some (r, n') → ∀ (H : Heap) (locs : List Loc) (ls : Array Slot), va_P E.1 vwCl (wX3 E a n) H → va_D A (wX3 E a n) → va_S A s.heap H locs → lv_has ls 4 [(3, .int v3_5), (2, .int v2_5), (0, .ref ((a 8) 0)), (1, .int p1)] → W p l e (rmk 1 22) s m [.ref ((a 8) 0), .int p1].toArray below meth c H locs 0 0 (MQ below (Qct E A (wX3 E a n') (some (.int r))) [.ref ((a 8) 0), .int p1].toArray s 0 0 A) (F0 m 32 ls []) := by
        intro k_5
        induction k_5 with
        | zero =>
          intro v3_5 v2_5 hf
          rw [lp_X3_status_32] at hf
          cases hf
        | succ k_5 ih_5 =>
          intro v3_5 v2_5 hf H locs ls hP hD hS hl
          rw [lp_X3_status_32] at hf
          refine lv_iload_n hx hb dX3_status_32 rfl (lv_at hl 0 rfl) ?_
          refine lv_bipush (v := (7 : Int32)) hx hb dX3_status_33 (by decide) ?_
          refine lv_icmp_ge (tgt := 53) hx hb dX3_status_35 (by decide) (fun c6 => ?_) (fun c6 => ?_)
          · have hf := ip c6 hf
            refine lv_iload_n hx hb dX3_status_53 rfl (lv_at hl 1 rfl) ?_
            obtain ⟨rfl, rfl⟩ := so2 hf
            exact rt_i hx hb hr hlocks hP hD hS dX3_status_54
          · have hf := im c6 hf
            refine lv_iload_n hx hb dX3_status_38 rfl (lv_at hl 1 rfl) ?_
            refine lv_aload_n hx hb dX3_status_39 rfl (lv_at hl 2 rfl) ?_
            refine va_get (D := E.1) (ci := 3) (v := .ref (a 8 2)) (C := RX3) (T := TX3) (N := 7) hx hb hts inX3 hown hE.2.1 hP 0 rfl rfl 6 (by decide) (hE.w tw_125) (fun _ h9 => h9) rfl dX3_status_40 ?_
            refine lv_iload_n hx hb dX3_status_43 rfl (lv_at hl 0 rfl) ?_
            obtain ⟨hg7, hf⟩ := gd_some hf
            refine va_iald hx hb hE.2.1 hP 36 0 rfl rfl hg7 dX3_status_44 ?_
            refine lv_iadd hx hb dX3_status_45 ?_
            refine lv_istore_n (lv' := [(2, .int (v2_5 + ((g3_found n) v3_5.toNatClampNeg))), (3, .int v3_5), (0, .ref ((a 8) 0)), (1, .int p1)]) hx hb dX3_status_46 rfl hl (by decide) rfl (fun ls hl => ?_)
            refine lv_iinc (v := (v3_5 + (1 : Int32))) (lv' := [(3, .int (v3_5 + (1 : Int32))), (2, .int (v2_5 + ((g3_found n) v3_5.toNatClampNeg))), (0, .ref ((a 8) 0)), (1, .int p1)]) hx hb dX3_status_47 hl (k := 1) rfl rfl (by decide) rfl (fun ls hl => ?_)
            refine lv_goto (tgt := 32) hx hb dX3_status_50 (by decide) ?_
            exact ih_5 _ _ hf _ _ _ hP hD hS (lv_sub hl [0, 1, 2, 3] rfl)
      exact L_5 _ _ _ hf _ _ _ hP hD hS (lv_sub hl [0, 1, 2, 3] rfl)
    · have hf := im c4 hf
      refine lv_aload_n hx hb dX3_status_21 rfl (lv_at hl 0 rfl) ?_
      refine va_get (D := E.1) (ci := 3) (v := .ref (a 8 2)) (C := RX3) (T := TX3) (N := 7) hx hb hts inX3 hown hE.2.1 hP 0 rfl rfl 6 (by decide) (hE.w tw_125) (fun _ h9 => h9) rfl dX3_status_22 ?_
      refine lv_iload_n hx hb dX3_status_25 rfl (lv_at hl 1 rfl) ?_
      obtain ⟨hg8, hf⟩ := gd_some hf
      refine va_iald hx hb hE.2.1 hP 36 0 rfl rfl hg8 dX3_status_26 ?_
      obtain ⟨rfl, rfl⟩ := so2 hf
      exact rt_i hx hb hr hlocks hP hD hS dX3_status_27
  · have hf := ip c3 hf
    refine lv_aload_n hx hb dX3_status_10 rfl (lv_at hl 0 rfl) ?_
    refine lv_ldc (v := (-1000000001 : Int32)) hx hb hown (hE.w tw_148) dX3_status_11 ?_
    obtain ⟨r10, n11, hc9, hf⟩ := bd2_some hf
    refine cV (X := List.take 0 (wX3 E a n)) (Y := List.drop 37 (wX3 E a n)) (w := (wX3 E a n)) (w' := (wX3 E a n11)) (q0 := 0) lk_X3_49 hx hb hml hown hE hA (c_X3_finding l E a n (-1000000001 : Int32) r10 n11 hc9) rfl rfl hP hD hS rfl rfl ⟨rfl, rfl, Nat.le_of_ble_eq_true rfl, Nat.le_of_ble_eq_true rfl⟩ hl.1 (As := [.int (-1000000001 : Int32)]) (rest := []) rfl rfl (Nat.le_of_ble_eq_true rfl) ⟨Nat.zero_le _, Nat.zero_le _⟩ dX3_status_13 (fun H locs hP hD hS => ?_)
    refine W.eq (g2 := F0 m 16 ls [.int r10]) rfl ?_
    obtain ⟨rfl, rfl⟩ := so2 hf
    exact rt_i hx hb hr hlocks hP hD hS dX3_status_16
