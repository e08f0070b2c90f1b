def f_X4_isSheet (p1 : Int32) : Option (Bool) := bd1 (f_X4_in (p1.toInt64) (0 : Int64) (3 : Int64)) (fun r2 => some (r2))
set_option maxHeartbeats 4000000 in
set_option maxRecDepth 100000 in
theorem c_X4_isSheet (l : Launch) (E : EV)  (p1 : Int32)  (r : Bool) (hf : f_X4_isSheet p1 = some r) : Ct l E yX4_isSheet cX4_isSheet 1 ((Option.some FieldType.boolean)) (rmk 1 25) [.int p1] ([] : va_W) ([] : va_W) (some (.int (bI r))) := by
  refine Ct.of (by decide) (Nat.le_of_ble_eq_true rfl) ?_
  intro p e s m below meth c A ls hC hP hD hl
  obtain ⟨hx, hb, hr, hml, hown, hlocks, hE, hA⟩ := hC
  have hts : ∀ w ∈ tbl, w.before [.int p1].toArray s = true := fun w hw => hE.w hw
  have hS : va_S A s.heap s.heap [] := va_S.rf
  have hl : lv_has ls 1 [(0, .int p1)] := hl
  unfold f_X4_isSheet at hf
  refine lv_iload_n hx hb dX4_isSheet_0 rfl (lv_at hl 0 rfl) ?_
  refine lv_i2l (v := (p1.toInt64)) hx hb dX4_isSheet_1 rfl ?_
  refine lv_lconst (v := (0 : Int64)) hx hb dX4_isSheet_2 (by decide) ?_
  refine lv_ldc2 (v := (3 : Int64)) hx hb hown (hE.w tw_949) dX4_isSheet_3 ?_
  obtain ⟨r2, hc1, hf⟩ := bd1_some hf
  refine cS (X := List.take 0 ([] : va_W)) (Y := List.drop 0 ([] : va_W)) (w := ([] : va_W)) (w' := ([] : va_W)) lk_X4_46 hx hb hml hown hE hA (c_X4_in l E (p1.toInt64) (0 : Int64) (3 : Int64) r2 hc1) rfl rfl hP hD hS ⟨rfl, rfl, Nat.le_of_ble_eq_true rfl, Nat.le_of_ble_eq_true rfl⟩ hl.1 (As := [.long (p1.toInt64), .long (0 : Int64), .long (3 : Int64)]) (rest := []) rfl rfl (Nat.le_of_ble_eq_true rfl) ⟨Nat.zero_le _, Nat.zero_le _⟩ dX4_isSheet_6 (fun H locs hP hD hS => ?_)
  refine W.eq (g2 := F0 m 9 ls [.int (bI r2)]) rfl ?_
  obtain rfl := so1 hf
  exact rt_z (bI_nar _) hx hb hr hlocks hP hD hS dX4_isSheet_9
def lp_X4_sheet_83 (p1 : Int32) : Nat → (Int32) → (MS) → Option (Int32 × MS)
  | 0, _, _ => none
  | k_18 + 1, v4_18, m0_18 => if (40 : Int32) ≤ v4_18 then gd p1 4 (some (((g4_sizeOf m0_18) p1.toNatClampNeg), m0_18)) else gd (((40 : Int32) * p1) + v4_18) 160 (jn1 (s4_number m0_18 (vp_updL (g4_number m0_18) (((40 : Int32) * p1) + v4_18).toNatClampNeg (0 : Int64))) (fun m_22 => lp_X4_sheet_83 p1 k_18 (v4_18 + (1 : Int32)) m_22))
def f_X4_sheet (m0 : MS) (p1 : Int32) (p2 : Int32) (p3 : Int32) : Option (Int32 × MS) := bd1 (f_X4_isSheet p1) (fun r2 => if (bI r2) = 0 then bd2 (f_X4_finds m0 (0 : Int32)) (fun r5 m6 => some (r5, m6)) else if p2 = 0 then if 0 ≤ p3 then if p3 ≤ (40 : Int32) then gd p1 4 (jn1 (s4_bitsOf m0 (upd (g4_bitsOf m0) p1.toNatClampNeg p2)) (fun m_11 => jn1 (if p2 = 0 then ((0 : Int32)) else (p3)) (fun x13 => gd p1 4 (jn1 (s4_sizeOf m_11 (upd (g4_sizeOf m_11) p1.toNatClampNeg x13)) (fun m_17 => lp_X4_sheet_83 p1 FU (0 : Int32) m_17))))) else bd2 (f_X4_finds m0 (0 : Int32)) (fun r24 m25 => some (r24, m25)) else bd2 (f_X4_finds m0 (6 : Int32)) (fun r27 m28 => some (r27, m28)) else if p2 = (8 : Int32) then if 0 ≤ p3 then if p3 ≤ (40 : Int32) then gd p1 4 (jn1 (s4_bitsOf m0 (upd (g4_bitsOf m0) p1.toNatClampNeg p2)) (fun m_33 => jn1 (if p2 = 0 then ((0 : Int32)) else (p3)) (fun x35 => gd p1 4 (jn1 (s4_sizeOf m_33 (upd (g4_sizeOf m_33) p1.toNatClampNeg x35)) (fun m_39 => lp_X4_sheet_83 p1 FU (0 : Int32) m_39))))) else bd2 (f_X4_finds m0 (0 : Int32)) (fun r46 m47 => some (r46, m47)) else bd2 (f_X4_finds m0 (6 : Int32)) (fun r49 m50 => some (r49, m50)) else if p2 = (16 : Int32) then if 0 ≤ p3 then if p3 ≤ (40 : Int32) then gd p1 4 (jn1 (s4_bitsOf m0 (upd (g4_bitsOf m0) p1.toNatClampNeg p2)) (fun m_55 => jn1 (if p2 = 0 then ((0 : Int32)) else (p3)) (fun x57 => gd p1 4 (jn1 (s4_sizeOf m_55 (upd (g4_sizeOf m_55) p1.toNatClampNeg x57)) (fun m_61 => lp_X4_sheet_83 p1 FU (0 : Int32) m_61))))) else bd2 (f_X4_finds m0 (0 : Int32)) (fun r68 m69 => some (r68, m69)) else bd2 (f_X4_finds m0 (6 : Int32)) (fun r71 m72 => some (r71, m72)) else if p2 = (64 : Int32) then if 0 ≤ p3 then if p3 ≤ (40 : Int32) then gd p1 4 (jn1 (s4_bitsOf m0 (upd (g4_bitsOf m0) p1.toNatClampNeg p2)) (fun m_77 => jn1 (if p2 = 0 then ((0 : Int32)) else (p3)) (fun x79 => gd p1 4 (jn1 (s4_sizeOf m_77 (upd (g4_sizeOf m_77) p1.toNatClampNeg x79)) (fun m_83 => lp_X4_sheet_83 p1 FU (0 : Int32) m_83))))) else bd2 (f_X4_finds m0 (0 : Int32)) (fun r90 m91 => some (r90, m91)) else bd2 (f_X4_finds m0 (6 : Int32)) (fun r93 m94 => some (r93, m94)) else bd2 (f_X4_finds m0 (0 : Int32)) (fun r96 m97 => some (r96, m97)))
set_option maxHeartbeats 4000000 in
set_option maxRecDepth 100000 in
theorem c_X4_sheet (l : Launch) (E : EV) (a : Nat → Nat) (m0 : MS) (p1 : Int32) (p2 : Int32) (p3 : Int32)  (r : Int32) (m0' : MS) (hf : f_X4_sheet m0 p1 p2 p3 = some (r, m0')) : Ct l E yX4_sheet cX4_sheet 5 ((Option.some FieldType.int)) (rmk 2 45) [.ref (a 0), .int p1, .int p2, .int p3] (wX4 E a m0) (wX4 E a m0') (some (.int r)) := by
  refine Ct.of (by decide) (Nat.le_of_ble_eq_true rfl) ?_
  intro p e s m below meth c A ls hC hP hD hl
  obtain ⟨hx, hb, hr, hml, hown, hlocks, hE, hA⟩ := hC
  have hts : ∀ w ∈ tbl, w.before [.ref (a 0), .int p1, .int p2, .int p3].toArray s = true := fun w hw => hE.w hw
  have hS : va_S A s.heap s.heap [] := va_S.rf
  have hl : lv_has ls 5 [(0, .ref (a 0)), (1, .int p1), (2, .int p2), (3, .int p3)] := hl
  unfold f_X4_sheet at hf
  refine lv_iload_n hx hb dX4_sheet_0 rfl (lv_at hl 1 rfl) ?_
  obtain ⟨r2, hc1, hf⟩ := bd1_some hf
  refine cS (X := List.take 0 (wX4 E a m0)) (Y := List.drop 0 (wX4 E a m0)) (w := (wX4 E a m0)) (w' := (wX4 E a m0)) lk_X4_265 hx hb hml hown hE hA (c_X4_isSheet l E p1 r2 hc1) rfl rfl hP hD hS ⟨rfl, rfl, Nat.le_of_ble_eq_true rfl, Nat.le_of_ble_eq_true rfl⟩ hl.1 (As := [.int p1]) (rest := []) rfl rfl (Nat.le_of_ble_eq_true rfl) ⟨Nat.zero_le _, Nat.zero_le _⟩ dX4_sheet_1 (fun H locs hP hD hS => ?_)
  refine W.eq (g2 := F0 m 4 ls [.int (bI r2)]) rfl ?_
  refine lv_if_eq (tgt := 29) hx hb dX4_sheet_4 (by decide) (fun c3 => ?_) (fun c3 => ?_)
  · have hf := ip c3 hf
    refine lv_aload_n hx hb dX4_sheet_29 rfl (lv_at hl 0 rfl) ?_
    refine lv_iconst (v := (0 : Int32)) hx hb dX4_sheet_30 (by decide) ?_
    obtain ⟨r5, m6, hc4, hf⟩ := bd2_some hf
    refine cV (X := List.take 0 (wX4 E a m0)) (Y := List.drop 12 (wX4 E a m0)) (w := (wX4 E a m0)) (w' := (wX4 E a m6)) (q0 := 0) lk_X4_92 hx hb hml hown hE hA (c_X4_finds l E a m0 (0 : Int32) r5 m6 hc4) rfl rfl hP hD hS rfl rfl ⟨rfl, rfl, Nat.le_of_ble_eq_true rfl, Nat.le_of_ble_eq_true rfl⟩ hl.1 (As := [.int (0 : Int32)]) (rest := []) rfl rfl (Nat.le_of_ble_eq_true rfl) ⟨Nat.zero_le _, Nat.zero_le _⟩ dX4_sheet_31 (fun H locs hP hD hS => ?_)
    refine W.eq (g2 := F0 m 34 ls [.int r5]) rfl ?_
    obtain ⟨rfl, rfl⟩ := so2 hf
    exact rt_i hx hb hr hlocks hP hD hS dX4_sheet_34
  · have hf := im c3 hf
    refine lv_iload_n hx hb dX4_sheet_7 rfl (lv_at hl 2 rfl) ?_
    refine lv_if_eq (tgt := 35) hx hb dX4_sheet_8 (by decide) (fun c7 => ?_) (fun c7 => ?_)
    · have hf := ip c7 hf
      refine lv_iload_n hx hb dX4_sheet_35 rfl (lv_at hl 3 rfl) ?_
      refine lv_if_ge (tgt := 46) hx hb dX4_sheet_36 (by decide) (fun c8 => ?_) (fun c8 => ?_)
      · have hf := ip c8 hf
        refine lv_iload_n hx hb dX4_sheet_46 rfl (lv_at hl 3 rfl) ?_
        refine lv_bipush (v := (40 : Int32)) hx hb dX4_sheet_47 (by decide) ?_
        refine lv_icmp_le (tgt := 58) hx hb dX4_sheet_49 (by decide) (fun c9 => ?_) (fun c9 => ?_)
        · have hf := ip c9 hf
          refine lv_aload_n hx hb dX4_sheet_58 rfl (lv_at hl 0 rfl) ?_
          refine va_get (D := E.1) (ci := 4) (v := .ref (a 15)) (C := RX4) (T := TX4) (N := 18) hx hb hts inX4 hown hE.2.1 hP 0 rfl rfl 14 (by decide) (hE.w tw_612) (fun _ h9 => h9) rfl dX4_sheet_59 ?_
          refine lv_iload_n hx hb dX4_sheet_62 rfl (lv_at hl 1 rfl) ?_
          refine lv_iload_n hx hb dX4_sheet_63 rfl (lv_at hl 2 rfl) ?_
          obtain ⟨hg10, hf⟩ := gd_some hf
          obtain ⟨m_11, em_11, hf⟩ := jn1_some hf
          refine va_iast hx hb hE.2.1 hP hD hS 8 0 rfl rfl hg10 dX4_sheet_64 (fun H locs hP hD hS => ?_)
          have hP : va_P E.1 vwCl (wX4 E a m_11) H := wst (by rw [em_11]; exact rfl) hP
          have hD : va_D A (wX4 E a m_11) := wsd (by rw [em_11]; exact rfl) hD
          refine lv_aload_n hx hb dX4_sheet_65 rfl (lv_at hl 0 rfl) ?_
          refine va_get (D := E.1) (ci := 4) (v := .ref (a 16)) (C := RX4) (T := TX4) (N := 18) hx hb hts inX4 hown hE.2.1 hP 0 rfl rfl 15 (by decide) (hE.w tw_613) (fun _ h9 => h9) rfl dX4_sheet_66 ?_
          refine lv_iload_n hx hb dX4_sheet_69 rfl (lv_at hl 1 rfl) ?_
          refine lv_iload_n hx hb dX4_sheet_70 rfl (lv_at hl 2 rfl) ?_
          obtain ⟨x13, hq15, hf⟩ := jn1_some hf
          have J14 : ∀ (H : Heap) (locs : List Loc) (ls : Array Slot), va_P E.1 vwCl (wX4 E a m_11) H → va_D A (wX4 E a m_11) → va_S A s.heap H locs → lv_has ls 5 [(0, .ref (a 0)), (1, .int p1), (2, .int p2), (3, .int p3)] → W p l e (rmk 2 45) s m [.ref (a 0), .int p1, .int p2, .int p3].toArray below meth c H locs 0 0 (MQ below (Qct E A (wX4 E a m0') (some (.int r))) [.ref (a 0), .int p1, .int p2, .int p3].toArray s 0 0 A) (F0 m 79 ls [.int x13, .int p1, .ref (a 16)]) := by
            intro H locs ls hP hD hS hl
            obtain ⟨hg16, hf⟩ := gd_some hf
            obtain ⟨m_17, em_17, hf⟩ := jn1_some hf
            refine va_iast hx hb hE.2.1 hP hD hS 9 0 rfl rfl hg16 dX4_sheet_79 (fun H locs hP hD hS => ?_)
            have hP : va_P E.1 vwCl (wX4 E a m_17) H := wst (by rw [em_17]; exact rfl) hP
            have hD : va_D A (wX4 E a m_17) := wsd (by rw [em_17]; exact rfl) hD
            refine lv_iconst (v := (0 : Int32)) hx hb dX4_sheet_80 (by decide) ?_
            refine lv_istore (lv' := [(4, .int (0 : Int32)), (0, .ref (a 0)), (1, .int p1), (2, .int p2), (3, .int p3)]) hx hb dX4_sheet_81 hl (by decide) rfl (fun ls hl => ?_)
            have L_18 : ∀ (k_18 : Nat) (v4_18 : Int32) (m0_18 : MS), lp_X4_sheet_83 p1 k_18 v4_18 m0_18 = some (r, m0') → ∀ (H : Heap) (locs : List Loc) (ls : Array Slot), va_P E.1 vwCl (wX4 E a m0_18) H → va_D A (wX4 E a m0_18) → va_S A s.heap H locs → lv_has ls 5 [(4, .int v4_18), (0, .ref (a 0)), (1, .int p1), (2, .int p2), (3, .int p3)] → W p l e (rmk 2 45) s m [.ref (a 0), .int p1, .int p2, .int p3].toArray below meth c H locs 0 0 (MQ below (Qct E A (wX4 E a m0') (some (.int r))) [.ref (a 0), .int p1, .int p2, .int p3].toArray s 0 0 A) (F0 m 83 ls []) := by
              intro k_18
              induction k_18 with
              | zero =>
                intro v4_18 m0_18 hf
                rw [lp_X4_sheet_83] at hf
                cases hf
              | succ k_18 ih_18 =>
                intro v4_18 m0_18 hf H locs ls hP hD hS hl
                rw [lp_X4_sheet_83] at hf
                refine lv_iload hx hb dX4_sheet_83 (lv_at hl 0 rfl) ?_
                refine lv_bipush (v := (40 : Int32)) hx hb dX4_sheet_85 (by decide) ?_
                refine lv_icmp_ge (tgt := 109) hx hb dX4_sheet_87 (by decide) (fun c19 => ?_) (fun c19 => ?_)
                · have hf := ip c19 hf
                  refine lv_aload_n hx hb dX4_sheet_109 rfl (lv_at hl 1 rfl) ?_
                  refine va_get (D := E.1) (ci := 4) (v := .ref (a 16)) (C := RX4) (T := TX4) (N := 18) hx hb hts inX4 hown hE.2.1 hP 0 rfl rfl 15 (by decide) (hE.w tw_613) (fun _ h9 => h9) rfl dX4_sheet_110 ?_
                  refine lv_iload_n hx hb dX4_sheet_113 rfl (lv_at hl 2 rfl) ?_
                  obtain ⟨hg20, hf⟩ := gd_some hf
                  refine va_iald hx hb hE.2.1 hP 9 0 rfl rfl hg20 dX4_sheet_114 ?_
                  obtain ⟨rfl, rfl⟩ := so2 hf
                  exact rt_i hx hb hr hlocks hP hD hS dX4_sheet_115
                · have hf := im c19 hf
                  refine lv_aload_n hx hb dX4_sheet_90 rfl (lv_at hl 1 rfl) ?_
                  refine va_get (D := E.1) (ci := 4) (v := .ref (a 17)) (C := RX4) (T := TX4) (N := 18) hx hb hts inX4 hown hE.2.1 hP 0 rfl rfl 16 (by decide) (hE.w tw_614) (fun _ h9 => h9) rfl dX4_sheet_91 ?_
                  refine lv_bipush (v := (40 : Int32)) hx hb dX4_sheet_94 (by decide) ?_
                  refine lv_iload_n hx hb dX4_sheet_96 rfl (lv_at hl 2 rfl) ?_
                  refine lv_imul hx hb dX4_sheet_97 ?_
                  refine lv_iload hx hb dX4_sheet_98 (lv_at hl 0 rfl) ?_
                  refine lv_iadd hx hb dX4_sheet_100 ?_
                  refine lv_lconst (v := (0 : Int64)) hx hb dX4_sheet_101 (by decide) ?_
                  obtain ⟨hg21, hf⟩ := gd_some hf
                  obtain ⟨m_22, em_22, hf⟩ := jn1_some hf
                  refine va_last hx hb hE.2.1 hP hD hS 10 1 rfl rfl hg21 dX4_sheet_102 (fun H locs hP hD hS => ?_)
                  have hP : va_P E.1 vwCl (wX4 E a m_22) H := wst (by rw [em_22]; exact rfl) hP
                  have hD : va_D A (wX4 E a m_22) := wsd (by rw [em_22]; exact rfl) hD
                  refine lv_iinc (v := (v4_18 + (1 : Int32))) (lv' := [(4, .int (v4_18 + (1 : Int32))), (0, .ref (a 0)), (1, .int p1), (2, .int p2), (3, .int p3)]) hx hb dX4_sheet_103 hl (k := 0) rfl rfl (by decide) rfl (fun ls hl => ?_)
                  refine lv_goto (tgt := 83) hx hb dX4_sheet_106 (by decide) ?_
                  exact ih_18 _ _ hf _ _ _ hP hD hS (lv_sub hl [0, 1, 2, 3, 4] rfl)
            exact L_18 _ _ _ hf _ _ _ hP hD hS (lv_sub hl [0, 1, 2, 3, 4] rfl)
          refine lv_if_ne (tgt := 78) hx hb dX4_sheet_71 (by decide) (fun c12 => ?_) (fun c12 => ?_)
          · have hq15 := ien c12 hq15
            refine lv_iload_n hx hb dX4_sheet_78 rfl (lv_at hl 3 rfl) ?_
            obtain rfl := pj1 hq15
            exact J14 _ _ _ hP hD hS (lv_sub hl [0, 1, 2, 3] rfl)
          · have hq15 := ie c12 hq15
            refine lv_iconst (v := (0 : Int32)) hx hb dX4_sheet_74 (by decide) ?_
            refine lv_goto (tgt := 79) hx hb dX4_sheet_75 (by decide) ?_
            obtain rfl := pj1 hq15
            exact J14 _ _ _ hP hD hS (lv_sub hl [0, 1, 2, 3] rfl)
        · have hf := im c9 hf
          refine lv_aload_n hx hb dX4_sheet_52 rfl (lv_at hl 0 rfl) ?_
          refine lv_iconst (v := (0 : Int32)) hx hb dX4_sheet_53 (by decide) ?_
          obtain ⟨r24, m25, hc23, hf⟩ := bd2_some hf
          refine cV (X := List.take 0 (wX4 E a m0)) (Y := List.drop 12 (wX4 E a m0)) (w := (wX4 E a m0)) (w' := (wX4 E a m25)) (q0 := 0) lk_X4_92 hx hb hml hown hE hA (c_X4_finds l E a m0 (0 : Int32) r24 m25 hc23) rfl rfl hP hD hS rfl rfl ⟨rfl, rfl, Nat.le_of_ble_eq_true rfl, Nat.le_of_ble_eq_true rfl⟩ hl.1 (As := [.int (0 : Int32)]) (rest := []) rfl rfl (Nat.le_of_ble_eq_true rfl) ⟨Nat.zero_le _, Nat.zero_le _⟩ dX4_sheet_54 (fun H locs hP hD hS => ?_)
          refine W.eq (g2 := F0 m 57 ls [.int r24]) rfl ?_
          obtain ⟨rfl, rfl⟩ := so2 hf
          exact rt_i hx hb hr hlocks hP hD hS dX4_sheet_57
      · have hf := im c8 hf
        refine lv_aload_n hx hb dX4_sheet_39 rfl (lv_at hl 0 rfl) ?_
        refine lv_bipush (v := (6 : Int32)) hx hb dX4_sheet_40 (by decide) ?_
        obtain ⟨r27, m28, hc26, hf⟩ := bd2_some hf
        refine cV (X := List.take 0 (wX4 E a m0)) (Y := List.drop 12 (wX4 E a m0)) (w := (wX4 E a m0)) (w' := (wX4 E a m28)) (q0 := 0) lk_X4_92 hx hb hml hown hE hA (c_X4_finds l E a m0 (6 : Int32) r27 m28 hc26) rfl rfl hP hD hS rfl rfl ⟨rfl, rfl, Nat.le_of_ble_eq_true rfl, Nat.le_of_ble_eq_true rfl⟩ hl.1 (As := [.int (6 : Int32)]) (rest := []) rfl rfl (Nat.le_of_ble_eq_true rfl) ⟨Nat.zero_le _, Nat.zero_le _⟩ dX4_sheet_42 (fun H locs hP hD hS => ?_)
        refine W.eq (g2 := F0 m 45 ls [.int r27]) rfl ?_
        obtain ⟨rfl, rfl⟩ := so2 hf
        exact rt_i hx hb hr hlocks hP hD hS dX4_sheet_45
    · have hf := im c7 hf
      refine lv_iload_n hx hb dX4_sheet_11 rfl (lv_at hl 2 rfl) ?_
      refine lv_bipush (v := (8 : Int32)) hx hb dX4_sheet_12 (by decide) ?_
      refine lv_icmp_eq (tgt := 35) hx hb dX4_sheet_14 (by decide) (fun c29 => ?_) (fun c29 => ?_)
      · have hf := ip c29 hf
        refine lv_iload_n hx hb dX4_sheet_35 rfl (lv_at hl 3 rfl) ?_
        refine lv_if_ge (tgt := 46) hx hb dX4_sheet_36 (by decide) (fun c30 => ?_) (fun c30 => ?_)
        · have hf := ip c30 hf
          refine lv_iload_n hx hb dX4_sheet_46 rfl (lv_at hl 3 rfl) ?_
          refine lv_bipush (v := (40 : Int32)) hx hb dX4_sheet_47 (by decide) ?_
          refine lv_icmp_le (tgt := 58) hx hb dX4_sheet_49 (by decide) (fun c31 => ?_) (fun c31 => ?_)
          · have hf := ip c31 hf
            refine lv_aload_n hx hb dX4_sheet_58 rfl (lv_at hl 0 rfl) ?_
            refine va_get (D := E.1) (ci := 4) (v := .ref (a 15)) (C := RX4) (T := TX4) (N := 18) hx hb hts inX4 hown hE.2.1 hP 0 rfl rfl 14 (by decide) (hE.w tw_612) (fun _ h9 => h9) rfl dX4_sheet_59 ?_
            refine lv_iload_n hx hb dX4_sheet_62 rfl (lv_at hl 1 rfl) ?_
            refine lv_iload_n hx hb dX4_sheet_63 rfl (lv_at hl 2 rfl) ?_
            obtain ⟨hg32, hf⟩ := gd_some hf
            obtain ⟨m_33, em_33, hf⟩ := jn1_some hf
            refine va_iast hx hb hE.2.1 hP hD hS 8 0 rfl rfl hg32 dX4_sheet_64 (fun H locs hP hD hS => ?_)
            have hP : va_P E.1 vwCl (wX4 E a m_33) H := wst (by rw [em_33]; exact rfl) hP
            have hD : va_D A (wX4 E a m_33) := wsd (by rw [em_33]; exact rfl) hD
            refine lv_aload_n hx hb dX4_sheet_65 rfl (lv_at hl 0 rfl) ?_
            refine va_get (D := E.1) (ci := 4) (v := .ref (a 16)) (C := RX4) (T := TX4) (N := 18) hx hb hts inX4 hown hE.2.1 hP 0 rfl rfl 15 (by decide) (hE.w tw_613) (fun _ h9 => h9) rfl dX4_sheet_66 ?_
            refine lv_iload_n hx hb dX4_sheet_69 rfl (lv_at hl 1 rfl) ?_
            refine lv_iload_n hx hb dX4_sheet_70 rfl (lv_at hl 2 rfl) ?_
            obtain ⟨x35, hq37, hf⟩ := jn1_some hf
            have J36 : ∀ (H : Heap) (locs : List Loc) (ls : Array Slot), va_P E.1 vwCl (wX4 E a m_33) H → va_D A (wX4 E a m_33) → va_S A s.heap H locs → lv_has ls 5 [(0, .ref (a 0)), (1, .int p1), (2, .int p2), (3, .int p3)] → W p l e (rmk 2 45) s m [.ref (a 0), .int p1, .int p2, .int p3].toArray below meth c H locs 0 0 (MQ below (Qct E A (wX4 E a m0') (some (.int r))) [.ref (a 0), .int p1, .int p2, .int p3].toArray s 0 0 A) (F0 m 79 ls [.int x35, .int p1, .ref (a 16)]) := by
              intro H locs ls hP hD hS hl
              obtain ⟨hg38, hf⟩ := gd_some hf
              obtain ⟨m_39, em_39, hf⟩ := jn1_some hf
              refine va_iast hx hb hE.2.1 hP hD hS 9 0 rfl rfl hg38 dX4_sheet_79 (fun H locs hP hD hS => ?_)
              have hP : va_P E.1 vwCl (wX4 E a m_39) H := wst (by rw [em_39]; exact rfl) hP
              have hD : va_D A (wX4 E a m_39) := wsd (by rw [em_39]; exact rfl) hD
              refine lv_iconst (v := (0 : Int32)) hx hb dX4_sheet_80 (by decide) ?_
              refine lv_istore (lv' := [(4, .int (0 : Int32)), (0, .ref (a 0)), (1, .int p1), (2, .int p2), (3, .int p3)]) hx hb dX4_sheet_81 hl (by decide) rfl (fun ls hl => ?_)
              have L_40 : ∀ (k_40 : Nat) (v4_40 : Int32) (m0_40 : MS), lp_X4_sheet_83 p1 k_40 v4_40 m0_40 = some (r, m0') → ∀ (H : Heap) (locs : List Loc) (ls : Array Slot), va_P E.1 vwCl (wX4 E a m0_40) H → va_D A (wX4 E a m0_40) → va_S A s.heap H locs → lv_has ls 5 [(4, .int v4_40), (0, .ref (a 0)), (1, .int p1), (2, .int p2), (3, .int p3)] → W p l e (rmk 2 45) s m [.ref (a 0), .int p1, .int p2, .int p3].toArray below meth c H locs 0 0 (MQ below (Qct E A (wX4 E a m0') (some (.int r))) [.ref (a 0), .int p1, .int p2, .int p3].toArray s 0 0 A) (F0 m 83 ls []) := by
                intro k_40
                induction k_40 with
                | zero =>
                  intro v4_40 m0_40 hf
                  rw [lp_X4_sheet_83] at hf
                  cases hf
                | succ k_40 ih_40 =>
                  intro v4_40 m0_40 hf H locs ls hP hD hS hl
                  rw [lp_X4_sheet_83] at hf
                  refine lv_iload hx hb dX4_sheet_83 (lv_at hl 0 rfl) ?_
                  refine lv_bipush (v := (40 : Int32)) hx hb dX4_sheet_85 (by decide) ?_
                  refine lv_icmp_ge (tgt := 109) hx hb dX4_sheet_87 (by decide) (fun c41 => ?_) (fun c41 => ?_)
                  · have hf := ip c41 hf
                    refine lv_aload_n hx hb dX4_sheet_109 rfl (lv_at hl 1 rfl) ?_
                    refine va_get (D := E.1) (ci := 4) (v := .ref (a 16)) (C := RX4) (T := TX4) (N := 18) hx hb hts inX4 hown hE.2.1 hP 0 rfl rfl 15 (by decide) (hE.w tw_613) (fun _ h9 => h9) rfl dX4_sheet_110 ?_
                    refine lv_iload_n hx hb dX4_sheet_113 rfl (lv_at hl 2 rfl) ?_
                    obtain ⟨hg42, hf⟩ := gd_some hf
                    refine va_iald hx hb hE.2.1 hP 9 0 rfl rfl hg42 dX4_sheet_114 ?_
                    obtain ⟨rfl, rfl⟩ := so2 hf
                    exact rt_i hx hb hr hlocks hP hD hS dX4_sheet_115
                  · have hf := im c41 hf
                    refine lv_aload_n hx hb dX4_sheet_90 rfl (lv_at hl 1 rfl) ?_
                    refine va_get (D := E.1) (ci := 4) (v := .ref (a 17)) (C := RX4) (T := TX4) (N := 18) hx hb hts inX4 hown hE.2.1 hP 0 rfl rfl 16 (by decide) (hE.w tw_614) (fun _ h9 => h9) rfl dX4_sheet_91 ?_
                    refine lv_bipush (v := (40 : Int32)) hx hb dX4_sheet_94 (by decide) ?_
                    refine lv_iload_n hx hb dX4_sheet_96 rfl (lv_at hl 2 rfl) ?_
                    refine lv_imul hx hb dX4_sheet_97 ?_
                    refine lv_iload hx hb dX4_sheet_98 (lv_at hl 0 rfl) ?_
                    refine lv_iadd hx hb dX4_sheet_100 ?_
                    refine lv_lconst (v := (0 : Int64)) hx hb dX4_sheet_101 (by decide) ?_
                    obtain ⟨hg43, hf⟩ := gd_some hf
                    obtain ⟨m_44, em_44, hf⟩ := jn1_some hf
                    refine va_last hx hb hE.2.1 hP hD hS 10 1 rfl rfl hg43 dX4_sheet_102 (fun H locs hP hD hS => ?_)
                    have hP : va_P E.1 vwCl (wX4 E a m_44) H := wst (by rw [em_44]; exact rfl) hP
                    have hD : va_D A (wX4 E a m_44) := wsd (by rw [em_44]; exact rfl) hD
                    refine lv_iinc (v := (v4_40 + (1 : Int32))) (lv' := [(4, .int (v4_40 + (1 : Int32))), (0, .ref (a 0)), (1, .int p1), (2, .int p2), (3, .int p3)]) hx hb dX4_sheet_103 hl (k := 0) rfl rfl (by decide) rfl (fun ls hl => ?_)
                    refine lv_goto (tgt := 83) hx hb dX4_sheet_106 (by decide) ?_
                    exact ih_40 _ _ hf _ _ _ hP hD hS (lv_sub hl [0, 1, 2, 3, 4] rfl)
              exact L_40 _ _ _ hf _ _ _ hP hD hS (lv_sub hl [0, 1, 2, 3, 4] rfl)
            refine lv_if_ne (tgt := 78) hx hb dX4_sheet_71 (by decide) (fun c34 => ?_) (fun c34 => ?_)
            · have hq37 := ien c34 hq37
              refine lv_iload_n hx hb dX4_sheet_78 rfl (lv_at hl 3 rfl) ?_
              obtain rfl := pj1 hq37
              exact J36 _ _ _ hP hD hS (lv_sub hl [0, 1, 2, 3] rfl)
            · have hq37 := ie c34 hq37
              refine lv_iconst (v := (0 : Int32)) hx hb dX4_sheet_74 (by decide) ?_
              refine lv_goto (tgt := 79) hx hb dX4_sheet_75 (by decide) ?_
              obtain rfl := pj1 hq37
              exact J36 _ _ _ hP hD hS (lv_sub hl [0, 1, 2, 3] rfl)
          · have hf := im c31 hf
            refine lv_aload_n hx hb dX4_sheet_52 rfl (lv_at hl 0 rfl) ?_
            refine lv_iconst (v := (0 : Int32)) hx hb dX4_sheet_53 (by decide) ?_
            obtain ⟨r46, m47, hc45, hf⟩ := bd2_some hf
            refine cV (X := List.take 0 (wX4 E a m0)) (Y := List.drop 12 (wX4 E a m0)) (w := (wX4 E a m0)) (w' := (wX4 E a m47)) (q0 := 0) lk_X4_92 hx hb hml hown hE hA (c_X4_finds l E a m0 (0 : Int32) r46 m47 hc45) rfl rfl hP hD hS rfl rfl ⟨rfl, rfl, Nat.le_of_ble_eq_true rfl, Nat.le_of_ble_eq_true rfl⟩ hl.1 (As := [.int (0 : Int32)]) (rest := []) rfl rfl (Nat.le_of_ble_eq_true rfl) ⟨Nat.zero_le _, Nat.zero_le _⟩ dX4_sheet_54 (fun H locs hP hD hS => ?_)
            refine W.eq (g2 := F0 m 57 ls [.int r46]) rfl ?_
            obtain ⟨rfl, rfl⟩ := so2 hf
            exact rt_i hx hb hr hlocks hP hD hS dX4_sheet_57
        · have hf := im c30 hf
          refine lv_aload_n hx hb dX4_sheet_39 rfl (lv_at hl 0 rfl) ?_
          refine lv_bipush (v := (6 : Int32)) hx hb dX4_sheet_40 (by decide) ?_
          obtain ⟨r49, m50, hc48, hf⟩ := bd2_some hf
          refine cV (X := List.take 0 (wX4 E a m0)) (Y := List.drop 12 (wX4 E a m0)) (w := (wX4 E a m0)) (w' := (wX4 E a m50)) (q0 := 0) lk_X4_92 hx hb hml hown hE hA (c_X4_finds l E a m0 (6 : Int32) r49 m50 hc48) rfl rfl hP hD hS rfl rfl ⟨rfl, rfl, Nat.le_of_ble_eq_true rfl, Nat.le_of_ble_eq_true rfl⟩ hl.1 (As := [.int (6 : Int32)]) (rest := []) rfl rfl (Nat.le_of_ble_eq_true rfl) ⟨Nat.zero_le _, Nat.zero_le _⟩ dX4_sheet_42 (fun H locs hP hD hS => ?_)
          refine W.eq (g2 := F0 m 45 ls [.int r49]) rfl ?_
          obtain ⟨rfl, rfl⟩ := so2 hf
          exact rt_i hx hb hr hlocks hP hD hS dX4_sheet_45
      · have hf := im c29 hf
        refine lv_iload_n hx hb dX4_sheet_17 rfl (lv_at hl 2 rfl) ?_
        refine lv_bipush (v := (16 : Int32)) hx hb dX4_sheet_18 (by decide) ?_
        refine lv_icmp_eq (tgt := 35) hx hb dX4_sheet_20 (by decide) (fun c51 => ?_) (fun c51 => ?_)
        · have hf := ip c51 hf
          refine lv_iload_n hx hb dX4_sheet_35 rfl (lv_at hl 3 rfl) ?_
          refine lv_if_ge (tgt := 46) hx hb dX4_sheet_36 (by decide) (fun c52 => ?_) (fun c52 => ?_)
          · have hf := ip c52 hf
            refine lv_iload_n hx hb dX4_sheet_46 rfl (lv_at hl 3 rfl) ?_
            refine lv_bipush (v := (40 : Int32)) hx hb dX4_sheet_47 (by decide) ?_
            refine lv_icmp_le (tgt := 58) hx hb dX4_sheet_49 (by decide) (fun c53 => ?_) (fun c53 => ?_)
            · have hf := ip c53 hf
              refine lv_aload_n hx hb dX4_sheet_58 rfl (lv_at hl 0 rfl) ?_
              refine va_get (D := E.1) (ci := 4) (v := .ref (a 15)) (C := RX4) (T := TX4) (N := 18) hx hb hts inX4 hown hE.2.1 hP 0 rfl rfl 14 (by decide) (hE.w tw_612) (fun _ h9 => h9) rfl dX4_sheet_59 ?_
              refine lv_iload_n hx hb dX4_sheet_62 rfl (lv_at hl 1 rfl) ?_
              refine lv_iload_n hx hb dX4_sheet_63 rfl (lv_at hl 2 rfl) ?_
              obtain ⟨hg54, hf⟩ := gd_some hf
              obtain ⟨m_55, em_55, hf⟩ := jn1_some hf
              refine va_iast hx hb hE.2.1 hP hD hS 8 0 rfl rfl hg54 dX4_sheet_64 (fun H locs hP hD hS => ?_)
              have hP : va_P E.1 vwCl (wX4 E a m_55) H := wst (by rw [em_55]; exact rfl) hP
              have hD : va_D A (wX4 E a m_55) := wsd (by rw [em_55]; exact rfl) hD
              refine lv_aload_n hx hb dX4_sheet_65 rfl (lv_at hl 0 rfl) ?_
              refine va_get (D := E.1) (ci := 4) (v := .ref (a 16)) (C := RX4) (T := TX4) (N := 18) hx hb hts inX4 hown hE.2.1 hP 0 rfl rfl 15 (by decide) (hE.w tw_613) (fun _ h9 => h9) rfl dX4_sheet_66 ?_
              refine lv_iload_n hx hb dX4_sheet_69 rfl (lv_at hl 1 rfl) ?_
              refine lv_iload_n hx hb dX4_sheet_70 rfl (lv_at hl 2 rfl) ?_
              obtain ⟨x57, hq59, hf⟩ := jn1_some hf
              have J58 : ∀ (H : Heap) (locs : List Loc) (ls : Array Slot), va_P E.1 vwCl (wX4 E a m_55) H → va_D A (wX4 E a m_55) → va_S A s.heap H locs → lv_has ls 5 [(0, .ref (a 0)), (1, .int p1), (2, .int p2), (3, .int p3)] → W p l e (rmk 2 45) s m [.ref (a 0), .int p1, .int p2, .int p3].toArray below meth c H locs 0 0 (MQ below (Qct E A (wX4 E a m0') (some (.int r))) [.ref (a 0), .int p1, .int p2, .int p3].toArray s 0 0 A) (F0 m 79 ls [.int x57, .int p1, .ref (a 16)]) := by
                intro H locs ls hP hD hS hl
                obtain ⟨hg60, hf⟩ := gd_some hf
                obtain ⟨m_61, em_61, hf⟩ := jn1_some hf
                refine va_iast hx hb hE.2.1 hP hD hS 9 0 rfl rfl hg60 dX4_sheet_79 (fun H locs hP hD hS => ?_)
                have hP : va_P E.1 vwCl (wX4 E a m_61) H := wst (by rw [em_61]; exact rfl) hP
                have hD : va_D A (wX4 E a m_61) := wsd (by rw [em_61]; exact rfl) hD
                refine lv_iconst (v := (0 : Int32)) hx hb dX4_sheet_80 (by decide) ?_
                refine lv_istore (lv' := [(4, .int (0 : Int32)), (0, .ref (a 0)), (1, .int p1), (2, .int p2), (3, .int p3)]) hx hb dX4_sheet_81 hl (by decide) rfl (fun ls hl => ?_)
                have L_62 : ∀ (k_62 : Nat) (v4_62 : Int32) (m0_62 : MS), lp_X4_sheet_83 p1 k_62 v4_62 m0_62 = some (r, m0') → ∀ (H : Heap) (locs : List Loc) (ls : Array Slot), va_P E.1 vwCl (wX4 E a m0_62) H → va_D A (wX4 E a m0_62) → va_S A s.heap H locs → lv_has ls 5 [(4, .int v4_62), (0, .ref (a 0)), (1, .int p1), (2, .int p2), (3, .int p3)] → W p l e (rmk 2 45) s m [.ref (a 0), .int p1, .int p2, .int p3].toArray below meth c H locs 0 0 (MQ below (Qct E A (wX4 E a m0') (some (.int r))) [.ref (a 0), .int p1, .int p2, .int p3].toArray s 0 0 A) (F0 m 83 ls []) := by
                  intro k_62
                  induction k_62 with
                  | zero =>
                    intro v4_62 m0_62 hf
                    rw [lp_X4_sheet_83] at hf
                    cases hf
                  | succ k_62 ih_62 =>
                    intro v4_62 m0_62 hf H locs ls hP hD hS hl
                    rw [lp_X4_sheet_83] at hf
                    refine lv_iload hx hb dX4_sheet_83 (lv_at hl 0 rfl) ?_
                    refine lv_bipush (v := (40 : Int32)) hx hb dX4_sheet_85 (by decide) ?_
                    refine lv_icmp_ge (tgt := 109) hx hb dX4_sheet_87 (by decide) (fun c63 => ?_) (fun c63 => ?_)
                    · have hf := ip c63 hf
                      refine lv_aload_n hx hb dX4_sheet_109 rfl (lv_at hl 1 rfl) ?_
                      refine va_get (D := E.1) (ci := 4) (v := .ref (a 16)) (C := RX4) (T := TX4) (N := 18) hx hb hts inX4 hown hE.2.1 hP 0 rfl rfl 15 (by decide) (hE.w tw_613) (fun _ h9 => h9) rfl dX4_sheet_110 ?_
                      refine lv_iload_n hx hb dX4_sheet_113 rfl (lv_at hl 2 rfl) ?_
                      obtain ⟨hg64, hf⟩ := gd_some hf
                      refine va_iald hx hb hE.2.1 hP 9 0 rfl rfl hg64 dX4_sheet_114 ?_
                      obtain ⟨rfl, rfl⟩ := so2 hf
                      exact rt_i hx hb hr hlocks hP hD hS dX4_sheet_115
                    · have hf := im c63 hf
                      refine lv_aload_n hx hb dX4_sheet_90 rfl (lv_at hl 1 rfl) ?_
                      refine va_get (D := E.1) (ci := 4) (v := .ref (a 17)) (C := RX4) (T := TX4) (N := 18) hx hb hts inX4 hown hE.2.1 hP 0 rfl rfl 16 (by decide) (hE.w tw_614) (fun _ h9 => h9) rfl dX4_sheet_91 ?_
                      refine lv_bipush (v := (40 : Int32)) hx hb dX4_sheet_94 (by decide) ?_
                      refine lv_iload_n hx hb dX4_sheet_96 rfl (lv_at hl 2 rfl) ?_
                      refine lv_imul hx hb dX4_sheet_97 ?_
                      refine lv_iload hx hb dX4_sheet_98 (lv_at hl 0 rfl) ?_
                      refine lv_iadd hx hb dX4_sheet_100 ?_
                      refine lv_lconst (v := (0 : Int64)) hx hb dX4_sheet_101 (by decide) ?_
                      obtain ⟨hg65, hf⟩ := gd_some hf
                      obtain ⟨m_66, em_66, hf⟩ := jn1_some hf
                      refine va_last hx hb hE.2.1 hP hD hS 10 1 rfl rfl hg65 dX4_sheet_102 (fun H locs hP hD hS => ?_)
                      have hP : va_P E.1 vwCl (wX4 E a m_66) H := wst (by rw [em_66]; exact rfl) hP
                      have hD : va_D A (wX4 E a m_66) := wsd (by rw [em_66]; exact rfl) hD
                      refine lv_iinc (v := (v4_62 + (1 : Int32))) (lv' := [(4, .int (v4_62 + (1 : Int32))), (0, .ref (a 0)), (1, .int p1), (2, .int p2), (3, .int p3)]) hx hb dX4_sheet_103 hl (k := 0) rfl rfl (by decide) rfl (fun ls hl => ?_)
                      refine lv_goto (tgt := 83) hx hb dX4_sheet_106 (by decide) ?_
                      exact ih_62 _ _ hf _ _ _ hP hD hS (lv_sub hl [0, 1, 2, 3, 4] rfl)
                exact L_62 _ _ _ hf _ _ _ hP hD hS (lv_sub hl [0, 1, 2, 3, 4] rfl)
              refine lv_if_ne (tgt := 78) hx hb dX4_sheet_71 (by decide) (fun c56 => ?_) (fun c56 => ?_)
              · have hq59 := ien c56 hq59
                refine lv_iload_n hx hb dX4_sheet_78 rfl (lv_at hl 3 rfl) ?_
                obtain rfl := pj1 hq59
                exact J58 _ _ _ hP hD hS (lv_sub hl [0, 1, 2, 3] rfl)
              · have hq59 := ie c56 hq59
                refine lv_iconst (v := (0 : Int32)) hx hb dX4_sheet_74 (by decide) ?_
                refine lv_goto (tgt := 79) hx hb dX4_sheet_75 (by decide) ?_
                obtain rfl := pj1 hq59
                exact J58 _ _ _ hP hD hS (lv_sub hl [0, 1, 2, 3] rfl)
            · have hf := im c53 hf
              refine lv_aload_n hx hb dX4_sheet_52 rfl (lv_at hl 0 rfl) ?_
              refine lv_iconst (v := (0 : Int32)) hx hb dX4_sheet_53 (by decide) ?_
              obtain ⟨r68, m69, hc67, hf⟩ := bd2_some hf
              refine cV (X := List.take 0 (wX4 E a m0)) (Y := List.drop 12 (wX4 E a m0)) (w := (wX4 E a m0)) (w' := (wX4 E a m69)) (q0 := 0) lk_X4_92 hx hb hml hown hE hA (c_X4_finds l E a m0 (0 : Int32) r68 m69 hc67) rfl rfl hP hD hS rfl rfl ⟨rfl, rfl, Nat.le_of_ble_eq_true rfl, Nat.le_of_ble_eq_true rfl⟩ hl.1 (As := [.int (0 : Int32)]) (rest := []) rfl rfl (Nat.le_of_ble_eq_true rfl) ⟨Nat.zero_le _, Nat.zero_le _⟩ dX4_sheet_54 (fun H locs hP hD hS => ?_)
              refine W.eq (g2 := F0 m 57 ls [.int r68]) rfl ?_
              obtain ⟨rfl, rfl⟩ := so2 hf
              exact rt_i hx hb hr hlocks hP hD hS dX4_sheet_57
          · have hf := im c52 hf
            refine lv_aload_n hx hb dX4_sheet_39 rfl (lv_at hl 0 rfl) ?_
            refine lv_bipush (v := (6 : Int32)) hx hb dX4_sheet_40 (by decide) ?_
            obtain ⟨r71, m72, hc70, hf⟩ := bd2_some hf
            refine cV (X := List.take 0 (wX4 E a m0)) (Y := List.drop 12 (wX4 E a m0)) (w := (wX4 E a m0)) (w' := (wX4 E a m72)) (q0 := 0) lk_X4_92 hx hb hml hown hE hA (c_X4_finds l E a m0 (6 : Int32) r71 m72 hc70) rfl rfl hP hD hS rfl rfl ⟨rfl, rfl, Nat.le_of_ble_eq_true rfl, Nat.le_of_ble_eq_true rfl⟩ hl.1 (As := [.int (6 : Int32)]) (rest := []) rfl rfl (Nat.le_of_ble_eq_true rfl) ⟨Nat.zero_le _, Nat.zero_le _⟩ dX4_sheet_42 (fun H locs hP hD hS => ?_)
            refine W.eq (g2 := F0 m 45 ls [.int r71]) rfl ?_
            obtain ⟨rfl, rfl⟩ := so2 hf
            exact rt_i hx hb hr hlocks hP hD hS dX4_sheet_45
        · have hf := im c51 hf
          refine lv_iload_n hx hb dX4_sheet_23 rfl (lv_at hl 2 rfl) ?_
          refine lv_bipush (v := (64 : Int32)) hx hb dX4_sheet_24 (by decide) ?_
          refine lv_icmp_eq (tgt := 35) hx hb dX4_sheet_26 (by decide) (fun c73 => ?_) (fun c73 => ?_)
          · have hf := ip c73 hf
            refine lv_iload_n hx hb dX4_sheet_35 rfl (lv_at hl 3 rfl) ?_
            refine lv_if_ge (tgt := 46) hx hb dX4_sheet_36 (by decide) (fun c74 => ?_) (fun c74 => ?_)
            · have hf := ip c74 hf
              refine lv_iload_n hx hb dX4_sheet_46 rfl (lv_at hl 3 rfl) ?_
              refine lv_bipush (v := (40 : Int32)) hx hb dX4_sheet_47 (by decide) ?_
              refine lv_icmp_le (tgt := 58) hx hb dX4_sheet_49 (by decide) (fun c75 => ?_) (fun c75 => ?_)
              · have hf := ip c75 hf
                refine lv_aload_n hx hb dX4_sheet_58 rfl (lv_at hl 0 rfl) ?_
                refine va_get (D := E.1) (ci := 4) (v := .ref (a 15)) (C := RX4) (T := TX4) (N := 18) hx hb hts inX4 hown hE.2.1 hP 0 rfl rfl 14 (by decide) (hE.w tw_612) (fun _ h9 => h9) rfl dX4_sheet_59 ?_
                refine lv_iload_n hx hb dX4_sheet_62 rfl (lv_at hl 1 rfl) ?_
                refine lv_iload_n hx hb dX4_sheet_63 rfl (lv_at hl 2 rfl) ?_
                obtain ⟨hg76, hf⟩ := gd_some hf
                obtain ⟨m_77, em_77, hf⟩ := jn1_some hf
                refine va_iast hx hb hE.2.1 hP hD hS 8 0 rfl rfl hg76 dX4_sheet_64 (fun H locs hP hD hS => ?_)
                have hP : va_P E.1 vwCl (wX4 E a m_77) H := wst (by rw [em_77]; exact rfl) hP
                have hD : va_D A (wX4 E a m_77) := wsd (by rw [em_77]; exact rfl) hD
                refine lv_aload_n hx hb dX4_sheet_65 rfl (lv_at hl 0 rfl) ?_
                refine va_get (D := E.1) (ci := 4) (v := .ref (a 16)) (C := RX4) (T := TX4) (N := 18) hx hb hts inX4 hown hE.2.1 hP 0 rfl rfl 15 (by decide) (hE.w tw_613) (fun _ h9 => h9) rfl dX4_sheet_66 ?_
                refine lv_iload_n hx hb dX4_sheet_69 rfl (lv_at hl 1 rfl) ?_
                refine lv_iload_n hx hb dX4_sheet_70 rfl (lv_at hl 2 rfl) ?_
                obtain ⟨x79, hq81, hf⟩ := jn1_some hf
                have J80 : ∀ (H : Heap) (locs : List Loc) (ls : Array Slot), va_P E.1 vwCl (wX4 E a m_77) H → va_D A (wX4 E a m_77) → va_S A s.heap H locs → lv_has ls 5 [(0, .ref (a 0)), (1, .int p1), (2, .int p2), (3, .int p3)] → W p l e (rmk 2 45) s m [.ref (a 0), .int p1, .int p2, .int p3].toArray below meth c H locs 0 0 (MQ below (Qct E A (wX4 E a m0') (some (.int r))) [.ref (a 0), .int p1, .int p2, .int p3].toArray s 0 0 A) (F0 m 79 ls [.int x79, .int p1, .ref (a 16)]) := by
                  intro H locs ls hP hD hS hl
                  obtain ⟨hg82, hf⟩ := gd_some hf
                  obtain ⟨m_83, em_83, hf⟩ := jn1_some hf
                  refine va_iast hx hb hE.2.1 hP hD hS 9 0 rfl rfl hg82 dX4_sheet_79 (fun H locs hP hD hS => ?_)
                  have hP : va_P E.1 vwCl (wX4 E a m_83) H := wst (by rw [em_83]; exact rfl) hP
                  have hD : va_D A (wX4 E a m_83) := wsd (by rw [em_83]; exact rfl) hD
                  refine lv_iconst (v := (0 : Int32)) hx hb dX4_sheet_80 (by decide) ?_
                  refine lv_istore (lv' := [(4, .int (0 : Int32)), (0, .ref (a 0)), (1, .int p1), (2, .int p2), (3, .int p3)]) hx hb dX4_sheet_81 hl (by decide) rfl (fun ls hl => ?_)
                  have L_84 : ∀ (k_84 : Nat) (v4_84 : Int32) (m0_84 : MS), lp_X4_sheet_83 p1 k_84 v4_84 m0_84 = some (r, m0') → ∀ (H : Heap) (locs : List Loc) (ls : Array Slot), va_P E.1 vwCl (wX4 E a m0_84) H → va_D A (wX4 E a m0_84) → va_S A s.heap H locs → lv_has ls 5 [(4, .int v4_84), (0, .ref (a 0)), (1, .int p1), (2, .int p2), (3, .int p3)] → W p l e (rmk 2 45) s m [.ref (a 0), .int p1, .int p2, .int p3].toArray below meth c H locs 0 0 (MQ below (Qct E A (wX4 E a m0') (some (.int r))) [.ref (a 0), .int p1, .int p2, .int p3].toArray s 0 0 A) (F0 m 83 ls []) := by
                    intro k_84
                    induction k_84 with
                    | zero =>
                      intro v4_84 m0_84 hf
                      rw [lp_X4_sheet_83] at hf
                      cases hf
                    | succ k_84 ih_84 =>
                      intro v4_84 m0_84 hf H locs ls hP hD hS hl
                      rw [lp_X4_sheet_83] at hf
                      refine lv_iload hx hb dX4_sheet_83 (lv_at hl 0 rfl) ?_
                      refine lv_bipush (v := (40 : Int32)) hx hb dX4_sheet_85 (by decide) ?_
                      refine lv_icmp_ge (tgt := 109) hx hb dX4_sheet_87 (by decide) (fun c85 => ?_) (fun c85 => ?_)
                      · have hf := ip c85 hf
                        refine lv_aload_n hx hb dX4_sheet_109 rfl (lv_at hl 1 rfl) ?_
                        refine va_get (D := E.1) (ci := 4) (v := .ref (a 16)) (C := RX4) (T := TX4) (N := 18) hx hb hts inX4 hown hE.2.1 hP 0 rfl rfl 15 (by decide) (hE.w tw_613) (fun _ h9 => h9) rfl dX4_sheet_110 ?_
                        refine lv_iload_n hx hb dX4_sheet_113 rfl (lv_at hl 2 rfl) ?_
                        obtain ⟨hg86, hf⟩ := gd_some hf
                        refine va_iald hx hb hE.2.1 hP 9 0 rfl rfl hg86 dX4_sheet_114 ?_
                        obtain ⟨rfl, rfl⟩ := so2 hf
                        exact rt_i hx hb hr hlocks hP hD hS dX4_sheet_115
                      · have hf := im c85 hf
                        refine lv_aload_n hx hb dX4_sheet_90 rfl (lv_at hl 1 rfl) ?_
                        refine va_get (D := E.1) (ci := 4) (v := .ref (a 17)) (C := RX4) (T := TX4) (N := 18) hx hb hts inX4 hown hE.2.1 hP 0 rfl rfl 16 (by decide) (hE.w tw_614) (fun _ h9 => h9) rfl dX4_sheet_91 ?_
                        refine lv_bipush (v := (40 : Int32)) hx hb dX4_sheet_94 (by decide) ?_
                        refine lv_iload_n hx hb dX4_sheet_96 rfl (lv_at hl 2 rfl) ?_
                        refine lv_imul hx hb dX4_sheet_97 ?_
                        refine lv_iload hx hb dX4_sheet_98 (lv_at hl 0 rfl) ?_
                        refine lv_iadd hx hb dX4_sheet_100 ?_
                        refine lv_lconst (v := (0 : Int64)) hx hb dX4_sheet_101 (by decide) ?_
                        obtain ⟨hg87, hf⟩ := gd_some hf
                        obtain ⟨m_88, em_88, hf⟩ := jn1_some hf
                        refine va_last hx hb hE.2.1 hP hD hS 10 1 rfl rfl hg87 dX4_sheet_102 (fun H locs hP hD hS => ?_)
                        have hP : va_P E.1 vwCl (wX4 E a m_88) H := wst (by rw [em_88]; exact rfl) hP
                        have hD : va_D A (wX4 E a m_88) := wsd (by rw [em_88]; exact rfl) hD
                        refine lv_iinc (v := (v4_84 + (1 : Int32))) (lv' := [(4, .int (v4_84 + (1 : Int32))), (0, .ref (a 0)), (1, .int p1), (2, .int p2), (3, .int p3)]) hx hb dX4_sheet_103 hl (k := 0) rfl rfl (by decide) rfl (fun ls hl => ?_)
                        refine lv_goto (tgt := 83) hx hb dX4_sheet_106 (by decide) ?_
                        exact ih_84 _ _ hf _ _ _ hP hD hS (lv_sub hl [0, 1, 2, 3, 4] rfl)
                  exact L_84 _ _ _ hf _ _ _ hP hD hS (lv_sub hl [0, 1, 2, 3, 4] rfl)
                refine lv_if_ne (tgt := 78) hx hb dX4_sheet_71 (by decide) (fun c78 => ?_) (fun c78 => ?_)
                · have hq81 := ien c78 hq81
                  refine lv_iload_n hx hb dX4_sheet_78 rfl (lv_at hl 3 rfl) ?_
                  obtain rfl := pj1 hq81
                  exact J80 _ _ _ hP hD hS (lv_sub hl [0, 1, 2, 3] rfl)
                · have hq81 := ie c78 hq81
                  refine lv_iconst (v := (0 : Int32)) hx hb dX4_sheet_74 (by decide) ?_
                  refine lv_goto (tgt := 79) hx hb dX4_sheet_75 (by decide) ?_
                  obtain rfl := pj1 hq81
                  exact J80 _ _ _ hP hD hS (lv_sub hl [0, 1, 2, 3] rfl)
              · have hf := im c75 hf
                refine lv_aload_n hx hb dX4_sheet_52 rfl (lv_at hl 0 rfl) ?_
                refine lv_iconst (v := (0 : Int32)) hx hb dX4_sheet_53 (by decide) ?_
                obtain ⟨r90, m91, hc89, hf⟩ := bd2_some hf
                refine cV (X := List.take 0 (wX4 E a m0)) (Y := List.drop 12 (wX4 E a m0)) (w := (wX4 E a m0)) (w' := (wX4 E a m91)) (q0 := 0) lk_X4_92 hx hb hml hown hE hA (c_X4_finds l E a m0 (0 : Int32) r90 m91 hc89) rfl rfl hP hD hS rfl rfl ⟨rfl, rfl, Nat.le_of_ble_eq_true rfl, Nat.le_of_ble_eq_true rfl⟩ hl.1 (As := [.int (0 : Int32)]) (rest := []) rfl rfl (Nat.le_of_ble_eq_true rfl) ⟨Nat.zero_le _, Nat.zero_le _⟩ dX4_sheet_54 (fun H locs hP hD hS => ?_)
                refine W.eq (g2 := F0 m 57 ls [.int r90]) rfl ?_
                obtain ⟨rfl, rfl⟩ := so2 hf
                exact rt_i hx hb hr hlocks hP hD hS dX4_sheet_57
            · have hf := im c74 hf
              refine lv_aload_n hx hb dX4_sheet_39 rfl (lv_at hl 0 rfl) ?_
              refine lv_bipush (v := (6 : Int32)) hx hb dX4_sheet_40 (by decide) ?_
              obtain ⟨r93, m94, hc92, hf⟩ := bd2_some hf
              refine cV (X := List.take 0 (wX4 E a m0)) (Y := List.drop 12 (wX4 E a m0)) (w := (wX4 E a m0)) (w' := (wX4 E a m94)) (q0 := 0) lk_X4_92 hx hb hml hown hE hA (c_X4_finds l E a m0 (6 : Int32) r93 m94 hc92) rfl rfl hP hD hS rfl rfl ⟨rfl, rfl, Nat.le_of_ble_eq_true rfl, Nat.le_of_ble_eq_true rfl⟩ hl.1 (As := [.int (6 : Int32)]) (rest := []) rfl rfl (Nat.le_of_ble_eq_true rfl) ⟨Nat.zero_le _, Nat.zero_le _⟩ dX4_sheet_42 (fun H locs hP hD hS => ?_)
              refine W.eq (g2 := F0 m 45 ls [.int r93]) rfl ?_
              obtain ⟨rfl, rfl⟩ := so2 hf
              exact rt_i hx hb hr hlocks hP hD hS dX4_sheet_45
          · have hf := im c73 hf
            refine lv_aload_n hx hb dX4_sheet_29 rfl (lv_at hl 0 rfl) ?_
            refine lv_iconst (v := (0 : Int32)) hx hb dX4_sheet_30 (by decide) ?_
            obtain ⟨r96, m97, hc95, hf⟩ := bd2_some hf
            refine cV (X := List.take 0 (wX4 E a m0)) (Y := List.drop 12 (wX4 E a m0)) (w := (wX4 E a m0)) (w' := (wX4 E a m97)) (q0 := 0) lk_X4_92 hx hb hml hown hE hA (c_X4_finds l E a m0 (0 : Int32) r96 m97 hc95) rfl rfl hP hD hS rfl rfl ⟨rfl, rfl, Nat.le_of_ble_eq_true rfl, Nat.le_of_ble_eq_true rfl⟩ hl.1 (As := [.int (0 : Int32)]) (rest := []) rfl rfl (Nat.le_of_ble_eq_true rfl) ⟨Nat.zero_le _, Nat.zero_le _⟩ dX4_sheet_31 (fun H locs hP hD hS => ?_)
            refine W.eq (g2 := F0 m 34 ls [.int r96]) rfl ?_
            obtain ⟨rfl, rfl⟩ := so2 hf
            exact rt_i hx hb hr hlocks hP hD hS dX4_sheet_34
def f_X4_whyNone (m0 : MS) (p1 : Int32) : Option (Int32) := bd1 (f_X4_isSheet p1) (fun r2 => if (bI r2) = 0 then some ((0 : Int32)) else gd p1 4 (if ((g4_bitsOf m0) p1.toNatClampNeg) = 0 then some ((5 : Int32)) else some ((-1 : Int32))))
set_option maxHeartbeats 4000000 in
set_option maxRecDepth 100000 in
theorem c_X4_whyNone (l : Launch) (E : EV) (a : Nat → Nat) (m0 : MS) (p1 : Int32)  (r : Int32) (hf : f_X4_whyNone m0 p1 = some r) : Ct l E yX4_whyNone cX4_whyNone 2 ((Option.some FieldType.int)) (rmk 2 45) [.ref (a 0), .int p1] (wX4 E a m0) (wX4 E a m0) (some (.int r)) := by
  refine Ct.of (by decide) (Nat.le_of_ble_eq_true rfl) ?_
  intro p e s m below meth c A ls hC hP hD hl
  obtain ⟨hx, hb, hr, hml, hown, hlocks, hE, hA⟩ := hC
  have hts : ∀ w ∈ tbl, w.before [.ref (a 0), .int p1].toArray s = true := fun w hw => hE.w hw
  have hS : va_S A s.heap s.heap [] := va_S.rf
  have hl : lv_has ls 2 [(0, .ref (a 0)), (1, .int p1)] := hl
  unfold f_X4_whyNone at hf
  refine lv_iload_n hx hb dX4_whyNone_0 rfl (lv_at hl 1 rfl) ?_
  obtain ⟨r2, hc1, hf⟩ := bd1_some hf
  refine cS (X := List.take 0 (wX4 E a m0)) (Y := List.drop 0 (wX4 E a m0)) (w := (wX4 E a m0)) (w' := (wX4 E a m0)) lk_X4_265 hx hb hml hown hE hA (c_X4_isSheet l E p1 r2 hc1) rfl rfl hP hD hS ⟨rfl, rfl, Nat.le_of_ble_eq_true rfl, Nat.le_of_ble_eq_true rfl⟩ hl.1 (As := [.int p1]) (rest := []) rfl rfl (Nat.le_of_ble_eq_true rfl) ⟨Nat.zero_le _, Nat.zero_le _⟩ dX4_whyNone_1 (fun H locs hP hD hS => ?_)
  refine W.eq (g2 := F0 m 4 ls [.int (bI r2)]) rfl ?_
  refine lv_if_ne (tgt := 11) hx hb dX4_whyNone_4 (by decide) (fun c3 => ?_) (fun c3 => ?_)
  · have hf := im c3 hf
    refine lv_aload_n hx hb dX4_whyNone_11 rfl (lv_at hl 0 rfl) ?_
    refine va_get (D := E.1) (ci := 4) (v := .ref (a 15)) (C := RX4) (T := TX4) (N := 18) hx hb hts inX4 hown hE.2.1 hP 0 rfl rfl 14 (by decide) (hE.w tw_612) (fun _ h9 => h9) rfl dX4_whyNone_12 ?_
    refine lv_iload_n hx hb dX4_whyNone_15 rfl (lv_at hl 1 rfl) ?_
    obtain ⟨hg4, hf⟩ := gd_some hf
    refine va_iald hx hb hE.2.1 hP 8 0 rfl rfl hg4 dX4_whyNone_16 ?_
    refine lv_if_ne (tgt := 24) hx hb dX4_whyNone_17 (by decide) (fun c5 => ?_) (fun c5 => ?_)
    · have hf := im c5 hf
      refine lv_iconst (v := (-1 : Int32)) hx hb dX4_whyNone_24 (by decide) ?_
      obtain rfl := so1 hf
      exact rt_i hx hb hr hlocks hP hD hS dX4_whyNone_25
    · have hf := ip c5 hf
      refine lv_iconst (v := (5 : Int32)) hx hb dX4_whyNone_20 (by decide) ?_
      refine lv_goto (tgt := 25) hx hb dX4_whyNone_21 (by decide) ?_
      obtain rfl := so1 hf
      exact rt_i hx hb hr hlocks hP hD hS dX4_whyNone_25
  · have hf := ip c3 hf
    refine lv_iconst (v := (0 : Int32)) hx hb dX4_whyNone_7 (by decide) ?_
    refine lv_goto (tgt := 25) hx hb dX4_whyNone_8 (by decide) ?_
    obtain rfl := so1 hf
    exact rt_i hx hb hr hlocks hP hD hS dX4_whyNone_25
def f_X4_puts (m0 : MS) (p1 : Int32) (p2 : Int32) (p3 : Int64) : Option (MS) := gd p1 4 (bd1 (if ((g4_bitsOf m0) p1.toNatClampNeg) = (8 : Int32) then some ((((p3.toInt32).toInt8.toInt32).toInt64)) else gd p1 4 (if ((g4_bitsOf m0) p1.toNatClampNeg) = (16 : Int32) then some ((((p3.toInt32).toInt16.toInt32).toInt64)) else some (p3))) (fun x3 => gd (((40 : Int32) * p1) + p2) 160 (jn1 (s4_number m0 (vp_updL (g4_number m0) (((40 : Int32) * p1) + p2).toNatClampNeg x3)) (fun m_9 => some (m_9)))))
set_option maxHeartbeats 4000000 in
set_option maxRecDepth 100000 in
theorem c_X4_puts (l : Launch) (E : EV) (a : Nat → Nat) (m0 : MS) (p1 : Int32) (p2 : Int32) (p3 : Int64)  (m0' : MS) (hf : f_X4_puts m0 p1 p2 p3 = some m0') : Ct l E yX4_puts cX4_puts 5 (none) (rmk 0 0) [.ref (a 0), .int p1, .int p2, .long p3] (wX4 E a m0) (wX4 E a m0') none := by
  refine Ct.of (by decide) (Nat.le_of_ble_eq_true rfl) ?_
  intro p e s m below meth c A ls hC hP hD hl
  obtain ⟨hx, hb, hr, hml, hown, hlocks, hE, hA⟩ := hC
  have hts : ∀ w ∈ tbl, w.before [.ref (a 0), .int p1, .int p2, .long p3].toArray s = true := fun w hw => hE.w hw
  have hS : va_S A s.heap s.heap [] := va_S.rf
  have hl : lv_has ls 5 [(0, .ref (a 0)), (1, .int p1), (2, .int p2), (3, .long p3)] := hl
  unfold f_X4_puts at hf
  refine lv_aload_n hx hb dX4_puts_0 rfl (lv_at hl 0 rfl) ?_
  refine va_get (D := E.1) (ci := 4) (v := .ref (a 17)) (C := RX4) (T := TX4) (N := 18) hx hb hts inX4 hown hE.2.1 hP 0 rfl rfl 16 (by decide) (hE.w tw_614) (fun _ h9 => h9) rfl dX4_puts_1 ?_
  refine lv_bipush (v := (40 : Int32)) hx hb dX4_puts_4 (by decide) ?_
  refine lv_iload_n hx hb dX4_puts_6 rfl (lv_at hl 1 rfl) ?_
  refine lv_imul hx hb dX4_puts_7 ?_
  refine lv_iload_n hx hb dX4_puts_8 rfl (lv_at hl 2 rfl) ?_
  refine lv_iadd hx hb dX4_puts_9 ?_
  refine lv_aload_n hx hb dX4_puts_10 rfl (lv_at hl 0 rfl) ?_
  refine va_get (D := E.1) (ci := 4) (v := .ref (a 15)) (C := RX4) (T := TX4) (N := 18) hx hb hts inX4 hown hE.2.1 hP 0 rfl rfl 14 (by decide) (hE.w tw_612) (fun _ h9 => h9) rfl dX4_puts_11 ?_
  refine lv_iload_n hx hb dX4_puts_14 rfl (lv_at hl 1 rfl) ?_
  obtain ⟨hg1, hf⟩ := gd_some hf
  refine va_iald hx hb hE.2.1 hP 8 0 rfl rfl hg1 dX4_puts_15 ?_
  refine lv_bipush (v := (8 : Int32)) hx hb dX4_puts_16 (by decide) ?_
  obtain ⟨x3, hq5, hf⟩ := bd1_some hf
  have J4 : ∀ (H : Heap) (locs : List Loc) (ls : Array Slot), va_P E.1 vwCl (wX4 E a m0) H → va_D A (wX4 E a m0) → va_S A s.heap H locs → lv_has ls 5 [(0, .ref (a 0)), (1, .int p1), (2, .int p2), (3, .long p3)] → W p l e (rmk 0 0) s m [.ref (a 0), .int p1, .int p2, .long p3].toArray below meth c H locs 0 0 (MQ below (Qct E A (wX4 E a m0') none) [.ref (a 0), .int p1, .int p2, .long p3].toArray s 0 0 A) (F0 m 47 ls [.long x3, .int (((40 : Int32) * p1) + p2), .ref (a 17)]) := by
    intro H locs ls hP hD hS hl
    obtain ⟨hg8, hf⟩ := gd_some hf
    obtain ⟨m_9, em_9, hf⟩ := jn1_some hf
    refine va_last hx hb hE.2.1 hP hD hS 10 1 rfl rfl hg8 dX4_puts_47 (fun H locs hP hD hS => ?_)
    have hP : va_P E.1 vwCl (wX4 E a m_9) H := wst (by rw [em_9]; exact rfl) hP
    have hD : va_D A (wX4 E a m_9) := wsd (by rw [em_9]; exact rfl) hD
    obtain rfl := so1 hf
    exact rt_v hx hb hr hlocks hP hD hS dX4_puts_48
  refine lv_icmp_ne (tgt := 28) hx hb dX4_puts_18 (by decide) (fun c2 => ?_) (fun c2 => ?_)
  · have hq5 := im c2 hq5
    refine lv_aload_n hx hb dX4_puts_28 rfl (lv_at hl 0 rfl) ?_
    refine va_get (D := E.1) (ci := 4) (v := .ref (a 15)) (C := RX4) (T := TX4) (N := 18) hx hb hts inX4 hown hE.2.1 hP 0 rfl rfl 14 (by decide) (hE.w tw_612) (fun _ h9 => h9) rfl dX4_puts_29 ?_
    refine lv_iload_n hx hb dX4_puts_32 rfl (lv_at hl 1 rfl) ?_
    obtain ⟨hg6, hq5⟩ := gd_some hq5
    refine va_iald hx hb hE.2.1 hP 8 0 rfl rfl hg6 dX4_puts_33 ?_
    refine lv_bipush (v := (16 : Int32)) hx hb dX4_puts_34 (by decide) ?_
    refine lv_icmp_ne (tgt := 46) hx hb dX4_puts_36 (by decide) (fun c7 => ?_) (fun c7 => ?_)
    · have hq5 := im c7 hq5
      refine lv_lload_n hx hb dX4_puts_46 rfl (lv_at hl 3 rfl) ?_
      obtain rfl := so1 hq5
      exact J4 _ _ _ hP hD hS (lv_sub hl [0, 1, 2, 3] rfl)
    · have hq5 := ip c7 hq5
      refine lv_lload_n hx hb dX4_puts_39 rfl (lv_at hl 3 rfl) ?_
      refine lv_l2i (v := (p3.toInt32)) hx hb dX4_puts_40 rfl ?_
      refine lv_i2s (v := ((p3.toInt32).toInt16.toInt32)) hx hb dX4_puts_41 rfl ?_
      refine lv_i2l (v := (((p3.toInt32).toInt16.toInt32).toInt64)) hx hb dX4_puts_42 rfl ?_
      refine lv_goto (tgt := 47) hx hb dX4_puts_43 (by decide) ?_
      obtain rfl := so1 hq5
      exact J4 _ _ _ hP hD hS (lv_sub hl [0, 1, 2, 3] rfl)
  · have hq5 := ip c2 hq5
    refine lv_lload_n hx hb dX4_puts_21 rfl (lv_at hl 3 rfl) ?_
    refine lv_l2i (v := (p3.toInt32)) hx hb dX4_puts_22 rfl ?_
    refine lv_i2b (v := ((p3.toInt32).toInt8.toInt32)) hx hb dX4_puts_23 rfl ?_
    refine lv_i2l (v := (((p3.toInt32).toInt8.toInt32).toInt64)) hx hb dX4_puts_24 rfl ?_
    refine lv_goto (tgt := 47) hx hb dX4_puts_25 (by decide) ?_
    obtain rfl := so1 hq5
    exact J4 _ _ _ hP hD hS (lv_sub hl [0, 1, 2, 3] rfl)
def f_X4_write (m0 : MS) (p1 : Int32) (p2 : Int32) (p3 : Int64) : Option (Int64 × MS) := bd1 (f_X4_whyNone m0 p1) (fun r2 => bd1 (if 0 ≤ r2 then some (r2) else gd p1 4 (bd1 (f_X4_in (p2.toInt64) (0 : Int64) ((((g4_sizeOf m0) p1.toNatClampNeg) - (1 : Int32)).toInt64)) (fun r9 => if (bI r9) = 0 then some ((0 : Int32)) else some (r2)))) (fun x4 => if x4 < 0 then gd (((40 : Int32) * p1) + p2) 160 (bd1 (f_X4_puts m0 p1 p2 p3) (fun m14 => some (((g4_number m0) (((40 : Int32) * p1) + p2).toNatClampNeg), m14))) else bd2 (f_X4_finds m0 x4) (fun r16 m17 => some ((r16.toInt64), m17))))
set_option maxHeartbeats 4000000 in
set_option maxRecDepth 100000 in
theorem c_X4_write (l : Launch) (E : EV) (a : Nat → Nat) (m0 : MS) (p1 : Int32) (p2 : Int32) (p3 : Int64)  (r : Int64) (m0' : MS) (hf : f_X4_write m0 p1 p2 p3 = some (r, m0')) : Ct l E yX4_write cX4_write 8 ((Option.some FieldType.long)) (rmk 3 66) [.ref (a 0), .int p1, .int p2, .long p3] (wX4 E a m0) (wX4 E a m0') (some (.long r)) := by
  refine Ct.of (by decide) (Nat.le_of_ble_eq_true rfl) ?_
  intro p e s m below meth c A ls hC hP hD hl
  obtain ⟨hx, hb, hr, hml, hown, hlocks, hE, hA⟩ := hC
  have hts : ∀ w ∈ tbl, w.before [.ref (a 0), .int p1, .int p2, .long p3].toArray s = true := fun w hw => hE.w hw
  have hS : va_S A s.heap s.heap [] := va_S.rf
  have hl : lv_has ls 8 [(0, .ref (a 0)), (1, .int p1), (2, .int p2), (3, .long p3)] := hl
  unfold f_X4_write at hf
  refine lv_aload_n hx hb dX4_write_0 rfl (lv_at hl 0 rfl) ?_
  refine lv_iload_n hx hb dX4_write_1 rfl (lv_at hl 1 rfl) ?_
  obtain ⟨r2, hc1, hf⟩ := bd1_some hf
  refine cV (X := List.take 0 (wX4 E a m0)) (Y := List.drop 12 (wX4 E a m0)) (w := (wX4 E a m0)) (w' := (wX4 E a m0)) (q0 := 0) lk_X4_268 hx hb hml hown hE hA (c_X4_whyNone l E a m0 p1 r2 hc1) rfl rfl hP hD hS rfl rfl ⟨rfl, rfl, Nat.le_of_ble_eq_true rfl, Nat.le_of_ble_eq_true rfl⟩ hl.1 (As := [.int p1]) (rest := []) rfl rfl (Nat.le_of_ble_eq_true rfl) ⟨Nat.zero_le _, Nat.zero_le _⟩ dX4_write_2 (fun H locs hP hD hS => ?_)
  refine W.eq (g2 := F0 m 5 ls [.int r2]) rfl ?_
  refine lv_istore (lv' := [(5, .int r2), (0, .ref (a 0)), (1, .int p1), (2, .int p2), (3, .long p3)]) hx hb dX4_write_5 hl (by decide) rfl (fun ls hl => ?_)
  refine lv_iload hx hb dX4_write_7 (lv_at hl 0 rfl) ?_
  obtain ⟨x4, hq6, hf⟩ := bd1_some hf
  have J5 : ∀ (H : Heap) (locs : List Loc) (ls : Array Slot), va_P E.1 vwCl (wX4 E a m0) H → va_D A (wX4 E a m0) → va_S A s.heap H locs → lv_has ls 8 [(5, .int r2), (0, .ref (a 0)), (1, .int p1), (2, .int p2), (3, .long p3)] → W p l e (rmk 3 66) s m [.ref (a 0), .int p1, .int p2, .long p3].toArray below meth c H locs 0 0 (MQ below (Qct E A (wX4 E a m0') (some (.long r))) [.ref (a 0), .int p1, .int p2, .long p3].toArray s 0 0 A) (F0 m 36 ls [.int x4]) := by
    intro H locs ls hP hD hS hl
    refine lv_istore (lv' := [(5, .int x4), (0, .ref (a 0)), (1, .int p1), (2, .int p2), (3, .long p3)]) hx hb dX4_write_36 hl (by decide) rfl (fun ls hl => ?_)
    refine lv_iload hx hb dX4_write_38 (lv_at hl 0 rfl) ?_
    refine lv_if_lt (tgt := 51) hx hb dX4_write_40 (by decide) (fun c11 => ?_) (fun c11 => ?_)
    · have hf := ip c11 hf
      refine lv_aload_n hx hb dX4_write_51 rfl (lv_at hl 1 rfl) ?_
      refine va_get (D := E.1) (ci := 4) (v := .ref (a 17)) (C := RX4) (T := TX4) (N := 18) hx hb hts inX4 hown hE.2.1 hP 0 rfl rfl 16 (by decide) (hE.w tw_614) (fun _ h9 => h9) rfl dX4_write_52 ?_
      refine lv_bipush (v := (40 : Int32)) hx hb dX4_write_55 (by decide) ?_
      refine lv_iload_n hx hb dX4_write_57 rfl (lv_at hl 2 rfl) ?_
      refine lv_imul hx hb dX4_write_58 ?_
      refine lv_iload_n hx hb dX4_write_59 rfl (lv_at hl 3 rfl) ?_
      refine lv_iadd hx hb dX4_write_60 ?_
      obtain ⟨hg12, hf⟩ := gd_some hf
      refine va_lald hx hb hE.2.1 hP 10 1 rfl rfl hg12 dX4_write_61 ?_
      refine lv_lstore (lv' := [(6, .long ((g4_number m0) (((40 : Int32) * p1) + p2).toNatClampNeg)), (5, .int x4), (0, .ref (a 0)), (1, .int p1), (2, .int p2), (3, .long p3)]) hx hb dX4_write_62 hl (by decide) rfl (fun ls hl => ?_)
      refine lv_aload_n hx hb dX4_write_64 rfl (lv_at hl 2 rfl) ?_
      refine lv_iload_n hx hb dX4_write_65 rfl (lv_at hl 3 rfl) ?_
      refine lv_iload_n hx hb dX4_write_66 rfl (lv_at hl 4 rfl) ?_
      refine lv_lload_n hx hb dX4_write_67 rfl (lv_at hl 5 rfl) ?_
      obtain ⟨m14, hc13, hf⟩ := bd1_some hf
      refine cV (X := List.take 0 (wX4 E a m0)) (Y := List.drop 12 (wX4 E a m0)) (w := (wX4 E a m0)) (w' := (wX4 E a m14)) (q0 := 0) lk_X4_271 hx hb hml hown hE hA (c_X4_puts l E a m0 p1 p2 p3 m14 hc13) rfl rfl hP hD hS rfl rfl ⟨rfl, rfl, Nat.le_of_ble_eq_true rfl, Nat.le_of_ble_eq_true rfl⟩ hl.1 (As := [.int p1, .int p2, .long p3]) (rest := []) rfl rfl (Nat.le_of_ble_eq_true rfl) ⟨Nat.zero_le _, Nat.zero_le _⟩ dX4_write_68 (fun H locs hP hD hS => ?_)
      refine W.eq (g2 := F0 m 71 ls []) rfl ?_
      refine lv_lload hx hb dX4_write_71 (lv_at hl 0 rfl) ?_
      obtain ⟨rfl, rfl⟩ := so2 hf
      exact rt_l hx hb hr hlocks hP hD hS dX4_write_73
    · have hf := im c11 hf
      refine lv_aload_n hx hb dX4_write_43 rfl (lv_at hl 1 rfl) ?_
      refine lv_iload hx hb dX4_write_44 (lv_at hl 0 rfl) ?_
      obtain ⟨r16, m17, hc15, hf⟩ := bd2_some hf
      refine cV (X := List.take 0 (wX4 E a m0)) (Y := List.drop 12 (wX4 E a m0)) (w := (wX4 E a m0)) (w' := (wX4 E a m17)) (q0 := 0) lk_X4_92 hx hb hml hown hE hA (c_X4_finds l E a m0 x4 r16 m17 hc15) rfl rfl hP hD hS rfl rfl ⟨rfl, rfl, Nat.le_of_ble_eq_true rfl, Nat.le_of_ble_eq_true rfl⟩ hl.1 (As := [.int x4]) (rest := []) rfl rfl (Nat.le_of_ble_eq_true rfl) ⟨Nat.zero_le _, Nat.zero_le _⟩ dX4_write_46 (fun H locs hP hD hS => ?_)
      refine W.eq (g2 := F0 m 49 ls [.int r16]) rfl ?_
      refine lv_i2l (v := (r16.toInt64)) hx hb dX4_write_49 rfl ?_
      obtain ⟨rfl, rfl⟩ := so2 hf
      exact rt_l hx hb hr hlocks hP hD hS dX4_write_50
  refine lv_if_ge (tgt := 34) hx hb dX4_write_9 (by decide) (fun c3 => ?_) (fun c3 => ?_)
  · have hq6 := ip c3 hq6
    refine lv_iload hx hb dX4_write_34 (lv_at hl 0 rfl) ?_
    obtain rfl := so1 hq6
    exact J5 _ _ _ hP hD hS (lv_sub hl [0, 1, 2, 3, 4] rfl)
  · have hq6 := im c3 hq6
    refine lv_iload_n hx hb dX4_write_12 rfl (lv_at hl 3 rfl) ?_
    refine lv_i2l (v := (p2.toInt64)) hx hb dX4_write_13 rfl ?_
    refine lv_lconst (v := (0 : Int64)) hx hb dX4_write_14 (by decide) ?_
    refine lv_aload_n hx hb dX4_write_15 rfl (lv_at hl 1 rfl) ?_
    refine va_get (D := E.1) (ci := 4) (v := .ref (a 16)) (C := RX4) (T := TX4) (N := 18) hx hb hts inX4 hown hE.2.1 hP 0 rfl rfl 15 (by decide) (hE.w tw_613) (fun _ h9 => h9) rfl dX4_write_16 ?_
    refine lv_iload_n hx hb dX4_write_19 rfl (lv_at hl 2 rfl) ?_
    obtain ⟨hg7, hq6⟩ := gd_some hq6
    refine va_iald hx hb hE.2.1 hP 9 0 rfl rfl hg7 dX4_write_20 ?_
    refine lv_iconst (v := (1 : Int32)) hx hb dX4_write_21 (by decide) ?_
    refine lv_isub hx hb dX4_write_22 ?_
    refine lv_i2l (v := ((((g4_sizeOf m0) p1.toNatClampNeg) - (1 : Int32)).toInt64)) hx hb dX4_write_23 rfl ?_
    obtain ⟨r9, hc8, hq6⟩ := bd1_some hq6
    refine cS (X := List.take 0 (wX4 E a m0)) (Y := List.drop 0 (wX4 E a m0)) (w := (wX4 E a m0)) (w' := (wX4 E a m0)) lk_X4_46 hx hb hml hown hE hA (c_X4_in l E (p2.toInt64) (0 : Int64) ((((g4_sizeOf m0) p1.toNatClampNeg) - (1 : Int32)).toInt64) r9 hc8) rfl rfl hP hD hS ⟨rfl, rfl, Nat.le_of_ble_eq_true rfl, Nat.le_of_ble_eq_true rfl⟩ hl.1 (As := [.long (p2.toInt64), .long (0 : Int64), .long ((((g4_sizeOf m0) p1.toNatClampNeg) - (1 : Int32)).toInt64)]) (rest := []) rfl rfl (Nat.le_of_ble_eq_true rfl) ⟨Nat.zero_le _, Nat.zero_le _⟩ dX4_write_24 (fun H locs hP hD hS => ?_)
    refine W.eq (g2 := F0 m 27 ls [.int (bI r9)]) rfl ?_
    refine lv_if_ne (tgt := 34) hx hb dX4_write_27 (by decide) (fun c10 => ?_) (fun c10 => ?_)
    · have hq6 := im c10 hq6
      refine lv_iload hx hb dX4_write_34 (lv_at hl 0 rfl) ?_
      obtain rfl := so1 hq6
      exact J5 _ _ _ hP hD hS (lv_sub hl [0, 1, 2, 3, 4] rfl)
    · have hq6 := ip c10 hq6
      refine lv_iconst (v := (0 : Int32)) hx hb dX4_write_30 (by decide) ?_
      refine lv_goto (tgt := 36) hx hb dX4_write_31 (by decide) ?_
      obtain rfl := so1 hq6
      exact J5 _ _ _ hP hD hS (lv_sub hl [0, 1, 2, 3, 4] rfl)
def lp_X4_copy_160 (p3 : Int32) (p4 : Int32) (p5 : Int32) : Nat → (Int32) → (MS) → Option (Int32 × MS)
  | 0, _, _ => none
  | k_41 + 1, v6_41, m0_41 => if p5 ≤ v6_41 then some (p5, m0_41) else gd v6_41 40 (gd ((((40 : Int32) * p3) + p4) + v6_41) 160 (jn1 (s4_number m0_41 (vp_updL (g4_number m0_41) ((((40 : Int32) * p3) + p4) + v6_41).toNatClampNeg ((g4_passing m0_41) v6_41.toNatClampNeg))) (fun m_45 => lp_X4_copy_160 p3 p4 p5 k_41 (v6_41 + (1 : Int32)) m_45)))
def lp_X4_copy_123 (p1 : Int32) (p2 : Int32) (p3 : Int32) (p4 : Int32) (p5 : Int32) : Nat → (Int32) → (MS) → Option (Int32 × MS)
  | 0, _, _ => none
  | k_39 + 1, v6_39, m0_39 => if p5 ≤ v6_39 then lp_X4_copy_160 p3 p4 p5 FU (0 : Int32) m0_39 else gd ((((40 : Int32) * p1) + p2) + v6_39) 160 (gd v6_39 40 (jn1 (s4_passing m0_39 (vp_updL (g4_passing m0_39) v6_39.toNatClampNeg ((g4_number m0_39) ((((40 : Int32) * p1) + p2) + v6_39).toNatClampNeg))) (fun m_48 => lp_X4_copy_123 p1 p2 p3 p4 p5 k_39 (v6_39 + (1 : Int32)) m_48)))
def f_X4_copy (m0 : MS) (p1 : Int32) (p2 : Int32) (p3 : Int32) (p4 : Int32) (p5 : Int32) : Option (Int32 × MS) := bd1 (f_X4_isSheet p1) (fun r2 => if (bI r2) = 0 then bd2 (f_X4_finds m0 (0 : Int32)) (fun r5 m6 => some (r5, m6)) else bd1 (f_X4_isSheet p3) (fun r8 => if (bI r8) = 0 then bd2 (f_X4_finds m0 (0 : Int32)) (fun r59 m60 => some (r59, m60)) else gd p1 4 (if ((g4_bitsOf m0) p1.toNatClampNeg) = 0 then bd2 (f_X4_finds m0 (5 : Int32)) (fun r13 m14 => some (r13, m14)) else gd p3 4 (if ((g4_bitsOf m0) p3.toNatClampNeg) = 0 then bd2 (f_X4_finds m0 (5 : Int32)) (fun r56 m57 => some (r56, m57)) else gd p1 4 (gd p3 4 (if ((g4_bitsOf m0) p1.toNatClampNeg) = ((g4_bitsOf m0) p3.toNatClampNeg) then if p2 < 0 then bd2 (f_X4_finds m0 (0 : Int32)) (fun r22 m23 => some (r22, m23)) else if p4 < 0 then bd2 (f_X4_finds m0 (0 : Int32)) (fun r26 m27 => some (r26, m27)) else if p5 < 0 then bd2 (f_X4_finds m0 (0 : Int32)) (fun r30 m31 => some (r30, m31)) else gd p1 4 (if (((g4_sizeOf m0) p1.toNatClampNeg).toInt64) < ((p2.toInt64) + (p5.toInt64)) then bd2 (f_X4_finds m0 (0 : Int32)) (fun r35 m36 => some (r35, m36)) else gd p3 4 (if ((p4.toInt64) + (p5.toInt64)) ≤ (((g4_sizeOf m0) p3.toNatClampNeg).toInt64) then lp_X4_copy_123 p1 p2 p3 p4 p5 FU (0 : Int32) m0 else bd2 (f_X4_finds m0 (0 : Int32)) (fun r50 m51 => some (r50, m51)))) else bd2 (f_X4_finds m0 (2 : Int32)) (fun r53 m54 => some (r53, m54))))))))
set_option maxHeartbeats 4000000 in
set_option maxRecDepth 100000 in
theorem c_X4_copy (l : Launch) (E : EV) (a : Nat → Nat) (m0 : MS) (p1 : Int32) (p2 : Int32) (p3 : Int32) (p4 : Int32) (p5 : Int32)  (r : Int32) (m0' : MS) (hf : f_X4_copy m0 p1 p2 p3 p4 p5 = some (r, m0')) : Ct l E yX4_copy cX4_copy 7 ((Option.some FieldType.int)) (rmk 2 45) [.ref (a 0), .int p1, .int p2, .int p3, .int p4, .int p5] (wX4 E a m0) (wX4 E a m0') (some (.int r)) := by
  refine Ct.of (by decide) (Nat.le_of_ble_eq_true rfl) ?_
  intro p e s m below meth c A ls hC hP hD hl
  obtain ⟨hx, hb, hr, hml, hown, hlocks, hE, hA⟩ := hC
  have hts : ∀ w ∈ tbl, w.before [.ref (a 0), .int p1, .int p2, .int p3, .int p4, .int p5].toArray s = true := fun w hw => hE.w hw
  have hS : va_S A s.heap s.heap [] := va_S.rf
  have hl : lv_has ls 7 [(0, .ref (a 0)), (1, .int p1), (2, .int p2), (3, .int p3), (4, .int p4), (5, .int p5)] := hl
  unfold f_X4_copy at hf
  refine lv_iload_n hx hb dX4_copy_0 rfl (lv_at hl 1 rfl) ?_
  obtain ⟨r2, hc1, hf⟩ := bd1_some hf
  refine cS (X := List.take 0 (wX4 E a m0)) (Y := List.drop 0 (wX4 E a m0)) (w := (wX4 E a m0)) (w' := (wX4 E a m0)) lk_X4_265 hx hb hml hown hE hA (c_X4_isSheet l E p1 r2 hc1) rfl rfl hP hD hS ⟨rfl, rfl, Nat.le_of_ble_eq_true rfl, Nat.le_of_ble_eq_true rfl⟩ hl.1 (As := [.int p1]) (rest := []) rfl rfl (Nat.le_of_ble_eq_true rfl) ⟨Nat.zero_le _, Nat.zero_le _⟩ dX4_copy_1 (fun H locs hP hD hS => ?_)
  refine W.eq (g2 := F0 m 4 ls [.int (bI r2)]) rfl ?_
  refine lv_if_eq (tgt := 14) hx hb dX4_copy_4 (by decide) (fun c3 => ?_) (fun c3 => ?_)
  · have hf := ip c3 hf
    refine lv_aload_n hx hb dX4_copy_14 rfl (lv_at hl 0 rfl) ?_
    refine lv_iconst (v := (0 : Int32)) hx hb dX4_copy_15 (by decide) ?_
    obtain ⟨r5, m6, hc4, hf⟩ := bd2_some hf
    refine cV (X := List.take 0 (wX4 E a m0)) (Y := List.drop 12 (wX4 E a m0)) (w := (wX4 E a m0)) (w' := (wX4 E a m6)) (q0 := 0) lk_X4_92 hx hb hml hown hE hA (c_X4_finds l E a m0 (0 : Int32) r5 m6 hc4) rfl rfl hP hD hS rfl rfl ⟨rfl, rfl, Nat.le_of_ble_eq_true rfl, Nat.le_of_ble_eq_true rfl⟩ hl.1 (As := [.int (0 : Int32)]) (rest := []) rfl rfl (Nat.le_of_ble_eq_true rfl) ⟨Nat.zero_le _, Nat.zero_le _⟩ dX4_copy_16 (fun H locs hP hD hS => ?_)
    refine W.eq (g2 := F0 m 19 ls [.int r5]) rfl ?_
    obtain ⟨rfl, rfl⟩ := so2 hf
    exact rt_i hx hb hr hlocks hP hD hS dX4_copy_19
  · have hf := im c3 hf
    refine lv_iload_n hx hb dX4_copy_7 rfl (lv_at hl 3 rfl) ?_
    obtain ⟨r8, hc7, hf⟩ := bd1_some hf
    refine cS (X := List.take 0 (wX4 E a m0)) (Y := List.drop 0 (wX4 E a m0)) (w := (wX4 E a m0)) (w' := (wX4 E a m0)) lk_X4_265 hx hb hml hown hE hA (c_X4_isSheet l E p3 r8 hc7) rfl rfl hP hD hS ⟨rfl, rfl, Nat.le_of_ble_eq_true rfl, Nat.le_of_ble_eq_true rfl⟩ hl.1 (As := [.int p3]) (rest := []) rfl rfl (Nat.le_of_ble_eq_true rfl) ⟨Nat.zero_le _, Nat.zero_le _⟩ dX4_copy_8 (fun H locs hP hD hS => ?_)
    refine W.eq (g2 := F0 m 11 ls [.int (bI r8)]) rfl ?_
    refine lv_if_ne (tgt := 20) hx hb dX4_copy_11 (by decide) (fun c9 => ?_) (fun c9 => ?_)
    · have hf := im c9 hf
      refine lv_aload_n hx hb dX4_copy_20 rfl (lv_at hl 0 rfl) ?_
      refine va_get (D := E.1) (ci := 4) (v := .ref (a 15)) (C := RX4) (T := TX4) (N := 18) hx hb hts inX4 hown hE.2.1 hP 0 rfl rfl 14 (by decide) (hE.w tw_612) (fun _ h9 => h9) rfl dX4_copy_21 ?_
      refine lv_iload_n hx hb dX4_copy_24 rfl (lv_at hl 1 rfl) ?_
      obtain ⟨hg10, hf⟩ := gd_some hf
      refine va_iald hx hb hE.2.1 hP 8 0 rfl rfl hg10 dX4_copy_25 ?_
      refine lv_if_eq (tgt := 38) hx hb dX4_copy_26 (by decide) (fun c11 => ?_) (fun c11 => ?_)
      · have hf := ip c11 hf
        refine lv_aload_n hx hb dX4_copy_38 rfl (lv_at hl 0 rfl) ?_
        refine lv_iconst (v := (5 : Int32)) hx hb dX4_copy_39 (by decide) ?_
        obtain ⟨r13, m14, hc12, hf⟩ := bd2_some hf
        refine cV (X := List.take 0 (wX4 E a m0)) (Y := List.drop 12 (wX4 E a m0)) (w := (wX4 E a m0)) (w' := (wX4 E a m14)) (q0 := 0) lk_X4_92 hx hb hml hown hE hA (c_X4_finds l E a m0 (5 : Int32) r13 m14 hc12) rfl rfl hP hD hS rfl rfl ⟨rfl, rfl, Nat.le_of_ble_eq_true rfl, Nat.le_of_ble_eq_true rfl⟩ hl.1 (As := [.int (5 : Int32)]) (rest := []) rfl rfl (Nat.le_of_ble_eq_true rfl) ⟨Nat.zero_le _, Nat.zero_le _⟩ dX4_copy_40 (fun H locs hP hD hS => ?_)
        refine W.eq (g2 := F0 m 43 ls [.int r13]) rfl ?_
        obtain ⟨rfl, rfl⟩ := so2 hf
        exact rt_i hx hb hr hlocks hP hD hS dX4_copy_43
      · have hf := im c11 hf
        refine lv_aload_n hx hb dX4_copy_29 rfl (lv_at hl 0 rfl) ?_
        refine va_get (D := E.1) (ci := 4) (v := .ref (a 15)) (C := RX4) (T := TX4) (N := 18) hx hb hts inX4 hown hE.2.1 hP 0 rfl rfl 14 (by decide) (hE.w tw_612) (fun _ h9 => h9) rfl dX4_copy_30 ?_
        refine lv_iload_n hx hb dX4_copy_33 rfl (lv_at hl 3 rfl) ?_
        obtain ⟨hg15, hf⟩ := gd_some hf
        refine va_iald hx hb hE.2.1 hP 8 0 rfl rfl hg15 dX4_copy_34 ?_
        refine lv_if_ne (tgt := 44) hx hb dX4_copy_35 (by decide) (fun c16 => ?_) (fun c16 => ?_)
        · have hf := im c16 hf
          refine lv_aload_n hx hb dX4_copy_44 rfl (lv_at hl 0 rfl) ?_
          refine va_get (D := E.1) (ci := 4) (v := .ref (a 15)) (C := RX4) (T := TX4) (N := 18) hx hb hts inX4 hown hE.2.1 hP 0 rfl rfl 14 (by decide) (hE.w tw_612) (fun _ h9 => h9) rfl dX4_copy_45 ?_
          refine lv_iload_n hx hb dX4_copy_48 rfl (lv_at hl 1 rfl) ?_
          obtain ⟨hg17, hf⟩ := gd_some hf
          refine va_iald hx hb hE.2.1 hP 8 0 rfl rfl hg17 dX4_copy_49 ?_
          refine lv_aload_n hx hb dX4_copy_50 rfl (lv_at hl 0 rfl) ?_
          refine va_get (D := E.1) (ci := 4) (v := .ref (a 15)) (C := RX4) (T := TX4) (N := 18) hx hb hts inX4 hown hE.2.1 hP 0 rfl rfl 14 (by decide) (hE.w tw_612) (fun _ h9 => h9) rfl dX4_copy_51 ?_
          refine lv_iload_n hx hb dX4_copy_54 rfl (lv_at hl 3 rfl) ?_
          obtain ⟨hg18, hf⟩ := gd_some hf
          refine va_iald hx hb hE.2.1 hP 8 0 rfl rfl hg18 dX4_copy_55 ?_
          refine lv_icmp_eq (tgt := 65) hx hb dX4_copy_56 (by decide) (fun c19 => ?_) (fun c19 => ?_)
          · have hf := ip c19 hf
            refine lv_iload_n hx hb dX4_copy_65 rfl (lv_at hl 2 rfl) ?_
            refine lv_if_lt (tgt := 114) hx hb dX4_copy_66 (by decide) (fun c20 => ?_) (fun c20 => ?_)
            · have hf := ip c20 hf
              refine lv_aload_n hx hb dX4_copy_114 rfl (lv_at hl 0 rfl) ?_
              refine lv_iconst (v := (0 : Int32)) hx hb dX4_copy_115 (by decide) ?_
              obtain ⟨r22, m23, hc21, hf⟩ := bd2_some hf
              refine cV (X := List.take 0 (wX4 E a m0)) (Y := List.drop 12 (wX4 E a m0)) (w := (wX4 E a m0)) (w' := (wX4 E a m23)) (q0 := 0) lk_X4_92 hx hb hml hown hE hA (c_X4_finds l E a m0 (0 : Int32) r22 m23 hc21) rfl rfl hP hD hS rfl rfl ⟨rfl, rfl, Nat.le_of_ble_eq_true rfl, Nat.le_of_ble_eq_true rfl⟩ hl.1 (As := [.int (0 : Int32)]) (rest := []) rfl rfl (Nat.le_of_ble_eq_true rfl) ⟨Nat.zero_le _, Nat.zero_le _⟩ dX4_copy_116 (fun H locs hP hD hS => ?_)
              refine W.eq (g2 := F0 m 119 ls [.int r22]) rfl ?_
              obtain ⟨rfl, rfl⟩ := so2 hf
              exact rt_i hx hb hr hlocks hP hD hS dX4_copy_119
            · have hf := im c20 hf
              refine lv_iload hx hb dX4_copy_69 (lv_at hl 4 rfl) ?_
              refine lv_if_lt (tgt := 114) hx hb dX4_copy_71 (by decide) (fun c24 => ?_) (fun c24 => ?_)
              · have hf := ip c24 hf
                refine lv_aload_n hx hb dX4_copy_114 rfl (lv_at hl 0 rfl) ?_
                refine lv_iconst (v := (0 : Int32)) hx hb dX4_copy_115 (by decide) ?_
                obtain ⟨r26, m27, hc25, hf⟩ := bd2_some hf
                refine cV (X := List.take 0 (wX4 E a m0)) (Y := List.drop 12 (wX4 E a m0)) (w := (wX4 E a m0)) (w' := (wX4 E a m27)) (q0 := 0) lk_X4_92 hx hb hml hown hE hA (c_X4_finds l E a m0 (0 : Int32) r26 m27 hc25) rfl rfl hP hD hS rfl rfl ⟨rfl, rfl, Nat.le_of_ble_eq_true rfl, Nat.le_of_ble_eq_true rfl⟩ hl.1 (As := [.int (0 : Int32)]) (rest := []) rfl rfl (Nat.le_of_ble_eq_true rfl) ⟨Nat.zero_le _, Nat.zero_le _⟩ dX4_copy_116 (fun H locs hP hD hS => ?_)
                refine W.eq (g2 := F0 m 119 ls [.int r26]) rfl ?_
                obtain ⟨rfl, rfl⟩ := so2 hf
                exact rt_i hx hb hr hlocks hP hD hS dX4_copy_119
              · have hf := im c24 hf
                refine lv_iload hx hb dX4_copy_74 (lv_at hl 5 rfl) ?_
                refine lv_if_lt (tgt := 114) hx hb dX4_copy_76 (by decide) (fun c28 => ?_) (fun c28 => ?_)
                · have hf := ip c28 hf
                  refine lv_aload_n hx hb dX4_copy_114 rfl (lv_at hl 0 rfl) ?_
                  refine lv_iconst (v := (0 : Int32)) hx hb dX4_copy_115 (by decide) ?_
                  obtain ⟨r30, m31, hc29, hf⟩ := bd2_some hf
                  refine cV (X := List.take 0 (wX4 E a m0)) (Y := List.drop 12 (wX4 E a m0)) (w := (wX4 E a m0)) (w' := (wX4 E a m31)) (q0 := 0) lk_X4_92 hx hb hml hown hE hA (c_X4_finds l E a m0 (0 : Int32) r30 m31 hc29) rfl rfl hP hD hS rfl rfl ⟨rfl, rfl, Nat.le_of_ble_eq_true rfl, Nat.le_of_ble_eq_true rfl⟩ hl.1 (As := [.int (0 : Int32)]) (rest := []) rfl rfl (Nat.le_of_ble_eq_true rfl) ⟨Nat.zero_le _, Nat.zero_le _⟩ dX4_copy_116 (fun H locs hP hD hS => ?_)
                  refine W.eq (g2 := F0 m 119 ls [.int r30]) rfl ?_
                  obtain ⟨rfl, rfl⟩ := so2 hf
                  exact rt_i hx hb hr hlocks hP hD hS dX4_copy_119
                · have hf := im c28 hf
                  refine lv_iload_n hx hb dX4_copy_79 rfl (lv_at hl 2 rfl) ?_
                  refine lv_i2l (v := (p2.toInt64)) hx hb dX4_copy_80 rfl ?_
                  refine lv_iload hx hb dX4_copy_81 (lv_at hl 5 rfl) ?_
                  refine lv_i2l (v := (p5.toInt64)) hx hb dX4_copy_83 rfl ?_
                  refine lv_ladd hx hb dX4_copy_84 ?_
                  refine lv_aload_n hx hb dX4_copy_85 rfl (lv_at hl 0 rfl) ?_
                  refine va_get (D := E.1) (ci := 4) (v := .ref (a 16)) (C := RX4) (T := TX4) (N := 18) hx hb hts inX4 hown hE.2.1 hP 0 rfl rfl 15 (by decide) (hE.w tw_613) (fun _ h9 => h9) rfl dX4_copy_86 ?_
                  refine lv_iload_n hx hb dX4_copy_89 rfl (lv_at hl 1 rfl) ?_
                  obtain ⟨hg32, hf⟩ := gd_some hf
                  refine va_iald hx hb hE.2.1 hP 9 0 rfl rfl hg32 dX4_copy_90 ?_
                  refine lv_i2l (v := (((g4_sizeOf m0) p1.toNatClampNeg).toInt64)) hx hb dX4_copy_91 rfl ?_
                  refine W.lcmp hx hb dX4_copy_92 ?_
                  refine lv_if_gt (tgt := 114) hx hb dX4_copy_93 (by decide) (fun c33 => ?_) (fun c33 => ?_)
                  · have c33 := (lg_cmp_gt _ _).mp c33
                    have hf := ip c33 hf
                    refine lv_aload_n hx hb dX4_copy_114 rfl (lv_at hl 0 rfl) ?_
                    refine lv_iconst (v := (0 : Int32)) hx hb dX4_copy_115 (by decide) ?_
                    obtain ⟨r35, m36, hc34, hf⟩ := bd2_some hf
                    refine cV (X := List.take 0 (wX4 E a m0)) (Y := List.drop 12 (wX4 E a m0)) (w := (wX4 E a m0)) (w' := (wX4 E a m36)) (q0 := 0) lk_X4_92 hx hb hml hown hE hA (c_X4_finds l E a m0 (0 : Int32) r35 m36 hc34) rfl rfl hP hD hS rfl rfl ⟨rfl, rfl, Nat.le_of_ble_eq_true rfl, Nat.le_of_ble_eq_true rfl⟩ hl.1 (As := [.int (0 : Int32)]) (rest := []) rfl rfl (Nat.le_of_ble_eq_true rfl) ⟨Nat.zero_le _, Nat.zero_le _⟩ dX4_copy_116 (fun H locs hP hD hS => ?_)
                    refine W.eq (g2 := F0 m 119 ls [.int r35]) rfl ?_
                    obtain ⟨rfl, rfl⟩ := so2 hf
                    exact rt_i hx hb hr hlocks hP hD hS dX4_copy_119
                  · have c33 := fun h => c33 ((lg_cmp_gt _ _).mpr h)
                    have hf := im c33 hf
                    refine lv_iload hx hb dX4_copy_96 (lv_at hl 4 rfl) ?_
                    refine lv_i2l (v := (p4.toInt64)) hx hb dX4_copy_98 rfl ?_
                    refine lv_iload hx hb dX4_copy_99 (lv_at hl 5 rfl) ?_
                    refine lv_i2l (v := (p5.toInt64)) hx hb dX4_copy_101 rfl ?_
                    refine lv_ladd hx hb dX4_copy_102 ?_
                    refine lv_aload_n hx hb dX4_copy_103 rfl (lv_at hl 0 rfl) ?_
                    refine va_get (D := E.1) (ci := 4) (v := .ref (a 16)) (C := RX4) (T := TX4) (N := 18) hx hb hts inX4 hown hE.2.1 hP 0 rfl rfl 15 (by decide) (hE.w tw_613) (fun _ h9 => h9) rfl dX4_copy_104 ?_
                    refine lv_iload_n hx hb dX4_copy_107 rfl (lv_at hl 3 rfl) ?_
                    obtain ⟨hg37, hf⟩ := gd_some hf
                    refine va_iald hx hb hE.2.1 hP 9 0 rfl rfl hg37 dX4_copy_108 ?_
                    refine lv_i2l (v := (((g4_sizeOf m0) p3.toNatClampNeg).toInt64)) hx hb dX4_copy_109 rfl ?_
                    refine W.lcmp hx hb dX4_copy_110 ?_
                    refine lv_if_le (tgt := 120) hx hb dX4_copy_111 (by decide) (fun c38 => ?_) (fun c38 => ?_)
                    · have c38 := (lg_cmp_le _ _).mp c38
                      have hf := ip c38 hf
                      refine lv_iconst (v := (0 : Int32)) hx hb dX4_copy_120 (by decide) ?_
                      refine lv_istore (lv' := [(6, .int (0 : Int32)), (0, .ref (a 0)), (1, .int p1), (2, .int p2), (3, .int p3), (4, .int p4), (5, .int p5)]) hx hb dX4_copy_121 hl (by decide) rfl (fun ls hl => ?_)
                      have L_39 : ∀ (k_39 : Nat) (v6_39 : Int32) (m0_39 : MS), lp_X4_copy_123 p1 p2 p3 p4 p5 k_39 v6_39 m0_39 = some (r, m0') → ∀ (H : Heap) (locs : List Loc) (ls : Array Slot), va_P E.1 vwCl (wX4 E a m0_39) H → va_D A (wX4 E a m0_39) → va_S A s.heap H locs → lv_has ls 7 [(6, .int v6_39), (0, .ref (a 0)), (1, .int p1), (2, .int p2), (3, .int p3), (4, .int p4), (5, .int p5)] → W p l e (rmk 2 45) s m [.ref (a 0), .int p1, .int p2, .int p3, .int p4, .int p5].toArray below meth c H locs 0 0 (MQ below (Qct E A (wX4 E a m0') (some (.int r))) [.ref (a 0), .int p1, .int p2, .int p3, .int p4, .int p5].toArray s 0 0 A) (F0 m 123 ls []) := by
                        intro k_39
                        induction k_39 with
                        | zero =>
                          intro v6_39 m0_39 hf
                          rw [lp_X4_copy_123] at hf
                          cases hf
                        | succ k_39 ih_39 =>
                          intro v6_39 m0_39 hf H locs ls hP hD hS hl
                          rw [lp_X4_copy_123] at hf
                          refine lv_iload hx hb dX4_copy_123 (lv_at hl 0 rfl) ?_
                          refine lv_iload hx hb dX4_copy_125 (lv_at hl 6 rfl) ?_
                          refine lv_icmp_ge (tgt := 157) hx hb dX4_copy_127 (by decide) (fun c40 => ?_) (fun c40 => ?_)
                          · have hf := ip c40 hf
                            refine lv_iconst (v := (0 : Int32)) hx hb dX4_copy_157 (by decide) ?_
                            refine lv_istore (lv' := [(6, .int (0 : Int32)), (0, .ref (a 0)), (1, .int p1), (2, .int p2), (3, .int p3), (4, .int p4), (5, .int p5)]) hx hb dX4_copy_158 hl (by decide) rfl (fun ls hl => ?_)
                            have L_41 : ∀ (k_41 : Nat) (v6_41 : Int32) (m0_41 : MS), lp_X4_copy_160 p3 p4 p5 k_41 v6_41 m0_41 = some (r, m0') → ∀ (H : Heap) (locs : List Loc) (ls : Array Slot), va_P E.1 vwCl (wX4 E a m0_41) H → va_D A (wX4 E a m0_41) → va_S A s.heap H locs → lv_has ls 7 [(6, .int v6_41), (0, .ref (a 0)), (1, .int p1), (2, .int p2), (3, .int p3), (4, .int p4), (5, .int p5)] → W p l e (rmk 2 45) s m [.ref (a 0), .int p1, .int p2, .int p3, .int p4, .int p5].toArray below meth c H locs 0 0 (MQ below (Qct E A (wX4 E a m0') (some (.int r))) [.ref (a 0), .int p1, .int p2, .int p3, .int p4, .int p5].toArray s 0 0 A) (F0 m 160 ls []) := by
                              intro k_41
                              induction k_41 with
                              | zero =>
                                intro v6_41 m0_41 hf
                                rw [lp_X4_copy_160] at hf
                                cases hf
                              | succ k_41 ih_41 =>
                                intro v6_41 m0_41 hf H locs ls hP hD hS hl
                                rw [lp_X4_copy_160] at hf
                                refine lv_iload hx hb dX4_copy_160 (lv_at hl 0 rfl) ?_
                                refine lv_iload hx hb dX4_copy_162 (lv_at hl 6 rfl) ?_
                                refine lv_icmp_ge (tgt := 195) hx hb dX4_copy_164 (by decide) (fun c42 => ?_) (fun c42 => ?_)
                                · have hf := ip c42 hf
                                  refine lv_iload hx hb dX4_copy_195 (lv_at hl 6 rfl) ?_
                                  obtain ⟨rfl, rfl⟩ := so2 hf
                                  exact rt_i hx hb hr hlocks hP hD hS dX4_copy_197
                                · have hf := im c42 hf
                                  refine lv_aload_n hx hb dX4_copy_167 rfl (lv_at hl 1 rfl) ?_
                                  refine va_get (D := E.1) (ci := 4) (v := .ref (a 17)) (C := RX4) (T := TX4) (N := 18) hx hb hts inX4 hown hE.2.1 hP 0 rfl rfl 16 (by decide) (hE.w tw_614) (fun _ h9 => h9) rfl dX4_copy_168 ?_
                                  refine lv_bipush (v := (40 : Int32)) hx hb dX4_copy_171 (by decide) ?_
                                  refine lv_iload_n hx hb dX4_copy_173 rfl (lv_at hl 4 rfl) ?_
                                  refine lv_imul hx hb dX4_copy_174 ?_
                                  refine lv_iload hx hb dX4_copy_175 (lv_at hl 5 rfl) ?_
                                  refine lv_iadd hx hb dX4_copy_177 ?_
                                  refine lv_iload hx hb dX4_copy_178 (lv_at hl 0 rfl) ?_
                                  refine lv_iadd hx hb dX4_copy_180 ?_
                                  refine lv_aload_n hx hb dX4_copy_181 rfl (lv_at hl 1 rfl) ?_
                                  refine va_get (D := E.1) (ci := 4) (v := .ref (a 18)) (C := RX4) (T := TX4) (N := 18) hx hb hts inX4 hown hE.2.1 hP 0 rfl rfl 17 (by decide) (hE.w tw_615) (fun _ h9 => h9) rfl dX4_copy_182 ?_
                                  refine lv_iload hx hb dX4_copy_185 (lv_at hl 0 rfl) ?_
                                  obtain ⟨hg43, hf⟩ := gd_some hf
                                  refine va_lald hx hb hE.2.1 hP 11 1 rfl rfl hg43 dX4_copy_187 ?_
                                  obtain ⟨hg44, hf⟩ := gd_some hf
                                  obtain ⟨m_45, em_45, hf⟩ := jn1_some hf
                                  refine va_last hx hb hE.2.1 hP hD hS 10 1 rfl rfl hg44 dX4_copy_188 (fun H locs hP hD hS => ?_)
                                  have hP : va_P E.1 vwCl (wX4 E a m_45) H := wst (by rw [em_45]; exact rfl) hP
                                  have hD : va_D A (wX4 E a m_45) := wsd (by rw [em_45]; exact rfl) hD
                                  refine lv_iinc (v := (v6_41 + (1 : Int32))) (lv' := [(6, .int (v6_41 + (1 : Int32))), (0, .ref (a 0)), (1, .int p1), (2, .int p2), (3, .int p3), (4, .int p4), (5, .int p5)]) hx hb dX4_copy_189 hl (k := 0) rfl rfl (by decide) rfl (fun ls hl => ?_)
                                  refine lv_goto (tgt := 160) hx hb dX4_copy_192 (by decide) ?_
                                  exact ih_41 _ _ hf _ _ _ hP hD hS (lv_sub hl [0, 1, 2, 3, 4, 5, 6] rfl)
                            exact L_41 _ _ _ hf _ _ _ hP hD hS (lv_sub hl [0, 1, 2, 3, 4, 5, 6] rfl)
                          · have hf := im c40 hf
                            refine lv_aload_n hx hb dX4_copy_130 rfl (lv_at hl 1 rfl) ?_
                            refine va_get (D := E.1) (ci := 4) (v := .ref (a 18)) (C := RX4) (T := TX4) (N := 18) hx hb hts inX4 hown hE.2.1 hP 0 rfl rfl 17 (by decide) (hE.w tw_615) (fun _ h9 => h9) rfl dX4_copy_131 ?_
                            refine lv_iload hx hb dX4_copy_134 (lv_at hl 0 rfl) ?_
                            refine lv_aload_n hx hb dX4_copy_136 rfl (lv_at hl 1 rfl) ?_
                            refine va_get (D := E.1) (ci := 4) (v := .ref (a 17)) (C := RX4) (T := TX4) (N := 18) hx hb hts inX4 hown hE.2.1 hP 0 rfl rfl 16 (by decide) (hE.w tw_614) (fun _ h9 => h9) rfl dX4_copy_137 ?_
                            refine lv_bipush (v := (40 : Int32)) hx hb dX4_copy_140 (by decide) ?_
                            refine lv_iload_n hx hb dX4_copy_142 rfl (lv_at hl 2 rfl) ?_
                            refine lv_imul hx hb dX4_copy_143 ?_
                            refine lv_iload_n hx hb dX4_copy_144 rfl (lv_at hl 3 rfl) ?_
                            refine lv_iadd hx hb dX4_copy_145 ?_
                            refine lv_iload hx hb dX4_copy_146 (lv_at hl 0 rfl) ?_
                            refine lv_iadd hx hb dX4_copy_148 ?_
                            obtain ⟨hg46, hf⟩ := gd_some hf
                            refine va_lald hx hb hE.2.1 hP 10 1 rfl rfl hg46 dX4_copy_149 ?_
                            obtain ⟨hg47, hf⟩ := gd_some hf
                            obtain ⟨m_48, em_48, hf⟩ := jn1_some hf
                            refine va_last hx hb hE.2.1 hP hD hS 11 1 rfl rfl hg47 dX4_copy_150 (fun H locs hP hD hS => ?_)
                            have hP : va_P E.1 vwCl (wX4 E a m_48) H := wst (by rw [em_48]; exact rfl) hP
                            have hD : va_D A (wX4 E a m_48) := wsd (by rw [em_48]; exact rfl) hD
                            refine lv_iinc (v := (v6_39 + (1 : Int32))) (lv' := [(6, .int (v6_39 + (1 : Int32))), (0, .ref (a 0)), (1, .int p1), (2, .int p2), (3, .int p3), (4, .int p4), (5, .int p5)]) hx hb dX4_copy_151 hl (k := 0) rfl rfl (by decide) rfl (fun ls hl => ?_)
                            refine lv_goto (tgt := 123) hx hb dX4_copy_154 (by decide) ?_
                            exact ih_39 _ _ hf _ _ _ hP hD hS (lv_sub hl [0, 1, 2, 3, 4, 5, 6] rfl)
                      exact L_39 _ _ _ hf _ _ _ hP hD hS (lv_sub hl [0, 1, 2, 3, 4, 5, 6] rfl)
                    · have c38 := fun h => c38 ((lg_cmp_le _ _).mpr h)
                      have hf := im c38 hf
                      refine lv_aload_n hx hb dX4_copy_114 rfl (lv_at hl 0 rfl) ?_
                      refine lv_iconst (v := (0 : Int32)) hx hb dX4_copy_115 (by decide) ?_
                      obtain ⟨r50, m51, hc49, hf⟩ := bd2_some hf
                      refine cV (X := List.take 0 (wX4 E a m0)) (Y := List.drop 12 (wX4 E a m0)) (w := (wX4 E a m0)) (w' := (wX4 E a m51)) (q0 := 0) lk_X4_92 hx hb hml hown hE hA (c_X4_finds l E a m0 (0 : Int32) r50 m51 hc49) rfl rfl hP hD hS rfl rfl ⟨rfl, rfl, Nat.le_of_ble_eq_true rfl, Nat.le_of_ble_eq_true rfl⟩ hl.1 (As := [.int (0 : Int32)]) (rest := []) rfl rfl (Nat.le_of_ble_eq_true rfl) ⟨Nat.zero_le _, Nat.zero_le _⟩ dX4_copy_116 (fun H locs hP hD hS => ?_)
                      refine W.eq (g2 := F0 m 119 ls [.int r50]) rfl ?_
                      obtain ⟨rfl, rfl⟩ := so2 hf
                      exact rt_i hx hb hr hlocks hP hD hS dX4_copy_119
          · have hf := im c19 hf
            refine lv_aload_n hx hb dX4_copy_59 rfl (lv_at hl 0 rfl) ?_
            refine lv_iconst (v := (2 : Int32)) hx hb dX4_copy_60 (by decide) ?_
            obtain ⟨r53, m54, hc52, hf⟩ := bd2_some hf
            refine cV (X := List.take 0 (wX4 E a m0)) (Y := List.drop 12 (wX4 E a m0)) (w := (wX4 E a m0)) (w' := (wX4 E a m54)) (q0 := 0) lk_X4_92 hx hb hml hown hE hA (c_X4_finds l E a m0 (2 : Int32) r53 m54 hc52) rfl rfl hP hD hS rfl rfl ⟨rfl, rfl, Nat.le_of_ble_eq_true rfl, Nat.le_of_ble_eq_true rfl⟩ hl.1 (As := [.int (2 : Int32)]) (rest := []) rfl rfl (Nat.le_of_ble_eq_true rfl) ⟨Nat.zero_le _, Nat.zero_le _⟩ dX4_copy_61 (fun H locs hP hD hS => ?_)
            refine W.eq (g2 := F0 m 64 ls [.int r53]) rfl ?_
            obtain ⟨rfl, rfl⟩ := so2 hf
            exact rt_i hx hb hr hlocks hP hD hS dX4_copy_64
        · have hf := ip c16 hf
          refine lv_aload_n hx hb dX4_copy_38 rfl (lv_at hl 0 rfl) ?_
          refine lv_iconst (v := (5 : Int32)) hx hb dX4_copy_39 (by decide) ?_
          obtain ⟨r56, m57, hc55, hf⟩ := bd2_some hf
          refine cV (X := List.take 0 (wX4 E a m0)) (Y := List.drop 12 (wX4 E a m0)) (w := (wX4 E a m0)) (w' := (wX4 E a m57)) (q0 := 0) lk_X4_92 hx hb hml hown hE hA (c_X4_finds l E a m0 (5 : Int32) r56 m57 hc55) rfl rfl hP hD hS rfl rfl ⟨rfl, rfl, Nat.le_of_ble_eq_true rfl, Nat.le_of_ble_eq_true rfl⟩ hl.1 (As := [.int (5 : Int32)]) (rest := []) rfl rfl (Nat.le_of_ble_eq_true rfl) ⟨Nat.zero_le _, Nat.zero_le _⟩ dX4_copy_40 (fun H locs hP hD hS => ?_)
          refine W.eq (g2 := F0 m 43 ls [.int r56]) rfl ?_
          obtain ⟨rfl, rfl⟩ := so2 hf
          exact rt_i hx hb hr hlocks hP hD hS dX4_copy_43
    · have hf := ip c9 hf
      refine lv_aload_n hx hb dX4_copy_14 rfl (lv_at hl 0 rfl) ?_
      refine lv_iconst (v := (0 : Int32)) hx hb dX4_copy_15 (by decide) ?_
      obtain ⟨r59, m60, hc58, hf⟩ := bd2_some hf
      refine cV (X := List.take 0 (wX4 E a m0)) (Y := List.drop 12 (wX4 E a m0)) (w := (wX4 E a m0)) (w' := (wX4 E a m60)) (q0 := 0) lk_X4_92 hx hb hml hown hE hA (c_X4_finds l E a m0 (0 : Int32) r59 m60 hc58) rfl rfl hP hD hS rfl rfl ⟨rfl, rfl, Nat.le_of_ble_eq_true rfl, Nat.le_of_ble_eq_true rfl⟩ hl.1 (As := [.int (0 : Int32)]) (rest := []) rfl rfl (Nat.le_of_ble_eq_true rfl) ⟨Nat.zero_le _, Nat.zero_le _⟩ dX4_copy_16 (fun H locs hP hD hS => ?_)
      refine W.eq (g2 := F0 m 19 ls [.int r59]) rfl ?_
      obtain ⟨rfl, rfl⟩ := so2 hf
      exact rt_i hx hb hr hlocks hP hD hS dX4_copy_19
def lp_X4_lays_21 (p1 : Int32) : Nat → (Int32) → (Int32) → (MS) → Option (Int32 × MS)
  | 0, _, _, _ => none
  | k_4 + 1, v4_4, v3_4, m0_4 => gd p1 4 (if ((g4_sizeOf m0_4) p1.toNatClampNeg) ≤ v4_4 then some (v3_4, m0_4) else gd (0 : Int32) 67 (if ((g4_d m0_4) (0 : Int32).toNatClampNeg) ≤ v4_4 then some (v3_4, m0_4) else gd (((40 : Int32) * p1) + v4_4) 160 (bd1 (f_X4_in ((g4_number m0_4) (((40 : Int32) * p1) + v4_4).toNatClampNeg) (0 : Int64) (99 : Int64)) (fun r11 => bd2 (if (bI r11) = 0 then some (v3_4, m0_4) else gd (((40 : Int32) * p1) + v4_4) 160 (bd1 (f_X4_sets m0_4 v4_4 (1 : Int32) (((g4_number m0_4) (((40 : Int32) * p1) + v4_4).toNatClampNeg).toInt32)) (fun m19 => some ((v3_4 + (1 : Int32)), m19)))) (fun x13 m014 => lp_X4_lays_21 p1 k_4 (v4_4 + (1 : Int32)) x13 m014)))))
def f_X4_lays (m0 : MS) (p1 : Int32) : Option (Int32 × MS) := bd1 (f_X4_whyNone m0 p1) (fun r2 => if r2 < 0 then lp_X4_lays_21 p1 FU (0 : Int32) (0 : Int32) m0 else bd2 (f_X4_finds m0 r2) (fun r21 m22 => some (r21, m22)))
set_option maxHeartbeats 4000000 in
set_option maxRecDepth 100000 in
theorem c_X4_lays (l : Launch) (E : EV) (a : Nat → Nat) (m0 : MS) (p1 : Int32)  (r : Int32) (m0' : MS) (hf : f_X4_lays m0 p1 = some (r, m0')) : Ct l E yX4_lays cX4_lays 5 ((Option.some FieldType.int)) (rmk 3 66) [.ref (a 0), .int p1] (wX4 E a m0) (wX4 E a m0') (some (.int r)) := by
  refine Ct.of (by decide) (Nat.le_of_ble_eq_true rfl) ?_
  intro p e s m below meth c A ls hC hP hD hl
  obtain ⟨hx, hb, hr, hml, hown, hlocks, hE, hA⟩ := hC
  have hts : ∀ w ∈ tbl, w.before [.ref (a 0), .int p1].toArray s = true := fun w hw => hE.w hw
  have hS : va_S A s.heap s.heap [] := va_S.rf
  have hl : lv_has ls 5 [(0, .ref (a 0)), (1, .int p1)] := hl
  unfold f_X4_lays at hf
  refine lv_aload_n hx hb dX4_lays_0 rfl (lv_at hl 0 rfl) ?_
  refine lv_iload_n hx hb dX4_lays_1 rfl (lv_at hl 1 rfl) ?_
  obtain ⟨r2, hc1, hf⟩ := bd1_some hf
  refine cV (X := List.take 0 (wX4 E a m0)) (Y := List.drop 12 (wX4 E a m0)) (w := (wX4 E a m0)) (w' := (wX4 E a m0)) (q0 := 0) lk_X4_268 hx hb hml hown hE hA (c_X4_whyNone l E a m0 p1 r2 hc1) rfl rfl hP hD hS rfl rfl ⟨rfl, rfl, Nat.le_of_ble_eq_true rfl, Nat.le_of_ble_eq_true rfl⟩ hl.1 (As := [.int p1]) (rest := []) rfl rfl (Nat.le_of_ble_eq_true rfl) ⟨Nat.zero_le _, Nat.zero_le _⟩ dX4_lays_2 (fun H locs hP hD hS => ?_)
  refine W.eq (g2 := F0 m 5 ls [.int r2]) rfl ?_
  refine lv_istore_n (lv' := [(2, .int r2), (0, .ref (a 0)), (1, .int p1)]) hx hb dX4_lays_5 rfl hl (by decide) rfl (fun ls hl => ?_)
  refine lv_iload_n hx hb dX4_lays_6 rfl (lv_at hl 0 rfl) ?_
  refine lv_if_lt (tgt := 16) hx hb dX4_lays_7 (by decide) (fun c3 => ?_) (fun c3 => ?_)
  · have hf := ip c3 hf
    refine lv_iconst (v := (0 : Int32)) hx hb dX4_lays_16 (by decide) ?_
    refine lv_istore_n (lv' := [(3, .int (0 : Int32)), (2, .int r2), (0, .ref (a 0)), (1, .int p1)]) hx hb dX4_lays_17 rfl hl (by decide) rfl (fun ls hl => ?_)
    refine lv_iconst (v := (0 : Int32)) hx hb dX4_lays_18 (by decide) ?_
    refine lv_istore (lv' := [(4, .int (0 : Int32)), (3, .int (0 : Int32)), (2, .int r2), (0, .ref (a 0)), (1, .int p1)]) hx hb dX4_lays_19 hl (by decide) rfl (fun ls hl => ?_)
    have L_4 : ∀ (k_4 : Nat) (v4_4 : Int32) (v3_4 : Int32) (m0_4 : MS), lp_X4_lays_21 p1 k_4 v4_4 v3_4 m0_4 = some (r, m0') → ∀ (H : Heap) (locs : List Loc) (ls : Array Slot), va_P E.1 vwCl (wX4 E a m0_4) H → va_D A (wX4 E a m0_4) → va_S A s.heap H locs → lv_has ls 5 [(4, .int v4_4), (3, .int v3_4), (2, .int r2), (0, .ref (a 0)), (1, .int p1)] → W p l e (rmk 3 66) s m [.ref (a 0), .int p1].toArray below meth c H locs 0 0 (MQ below (Qct E A (wX4 E a m0') (some (.int r))) [.ref (a 0), .int p1].toArray s 0 0 A) (F0 m 21 ls []) := by
      intro k_4
      induction k_4 with
      | zero =>
        intro v4_4 v3_4 m0_4 hf
        rw [lp_X4_lays_21] at hf
        cases hf
      | succ k_4 ih_4 =>
        intro v4_4 v3_4 m0_4 hf H locs ls hP hD hS hl
        rw [lp_X4_lays_21] at hf
        refine lv_iload hx hb dX4_lays_21 (lv_at hl 0 rfl) ?_
        refine lv_aload_n hx hb dX4_lays_23 rfl (lv_at hl 3 rfl) ?_
        refine va_get (D := E.1) (ci := 4) (v := .ref (a 16)) (C := RX4) (T := TX4) (N := 18) hx hb hts inX4 hown hE.2.1 hP 0 rfl rfl 15 (by decide) (hE.w tw_613) (fun _ h9 => h9) rfl dX4_lays_24 ?_
        refine lv_iload_n hx hb dX4_lays_27 rfl (lv_at hl 4 rfl) ?_
        obtain ⟨hg5, hf⟩ := gd_some hf
        refine va_iald hx hb hE.2.1 hP 9 0 rfl rfl hg5 dX4_lays_28 ?_
        refine lv_icmp_ge (tgt := 94) hx hb dX4_lays_29 (by decide) (fun c6 => ?_) (fun c6 => ?_)
        · have hf := ip c6 hf
          refine lv_iload_n hx hb dX4_lays_94 rfl (lv_at hl 1 rfl) ?_
          obtain ⟨rfl, rfl⟩ := so2 hf
          exact rt_i hx hb hr hlocks hP hD hS dX4_lays_95
        · have hf := im c6 hf
          refine lv_iload hx hb dX4_lays_32 (lv_at hl 0 rfl) ?_
          refine lv_aload_n hx hb dX4_lays_34 rfl (lv_at hl 3 rfl) ?_
          refine va_get (D := E.1) (ci := 4) (v := .ref (a 1)) (C := RX4) (T := TX4) (N := 18) hx hb hts inX4 hown hE.2.1 hP 0 rfl rfl 0 (by decide) (hE.w tw_598) (fun _ h9 => h9) rfl dX4_lays_35 ?_
          refine lv_iconst (v := (0 : Int32)) hx hb dX4_lays_38 (by decide) ?_
          obtain ⟨hg7, hf⟩ := gd_some hf
          refine va_iald hx hb hE.2.1 hP 1 0 rfl rfl hg7 dX4_lays_39 ?_
          refine lv_icmp_ge (tgt := 94) hx hb dX4_lays_40 (by decide) (fun c8 => ?_) (fun c8 => ?_)
          · have hf := ip c8 hf
            refine lv_iload_n hx hb dX4_lays_94 rfl (lv_at hl 1 rfl) ?_
            obtain ⟨rfl, rfl⟩ := so2 hf
            exact rt_i hx hb hr hlocks hP hD hS dX4_lays_95
          · have hf := im c8 hf
            refine lv_aload_n hx hb dX4_lays_43 rfl (lv_at hl 3 rfl) ?_
            refine va_get (D := E.1) (ci := 4) (v := .ref (a 17)) (C := RX4) (T := TX4) (N := 18) hx hb hts inX4 hown hE.2.1 hP 0 rfl rfl 16 (by decide) (hE.w tw_614) (fun _ h9 => h9) rfl dX4_lays_44 ?_
            refine lv_bipush (v := (40 : Int32)) hx hb dX4_lays_47 (by decide) ?_
            refine lv_iload_n hx hb dX4_lays_49 rfl (lv_at hl 4 rfl) ?_
            refine lv_imul hx hb dX4_lays_50 ?_
            refine lv_iload hx hb dX4_lays_51 (lv_at hl 0 rfl) ?_
            refine lv_iadd hx hb dX4_lays_53 ?_
            obtain ⟨hg9, hf⟩ := gd_some hf
            refine va_lald hx hb hE.2.1 hP 10 1 rfl rfl hg9 dX4_lays_54 ?_
            refine lv_lconst (v := (0 : Int64)) hx hb dX4_lays_55 (by decide) ?_
            refine lv_ldc2 (v := (99 : Int64)) hx hb hown (hE.w tw_742) dX4_lays_56 ?_
            obtain ⟨r11, hc10, hf⟩ := bd1_some hf
            refine cS (X := List.take 0 (wX4 E a m0_4)) (Y := List.drop 0 (wX4 E a m0_4)) (w := (wX4 E a m0_4)) (w' := (wX4 E a m0_4)) lk_X4_46 hx hb hml hown hE hA (c_X4_in l E ((g4_number m0_4) (((40 : Int32) * p1) + v4_4).toNatClampNeg) (0 : Int64) (99 : Int64) r11 hc10) rfl rfl hP hD hS ⟨rfl, rfl, Nat.le_of_ble_eq_true rfl, Nat.le_of_ble_eq_true rfl⟩ hl.1 (As := [.long ((g4_number m0_4) (((40 : Int32) * p1) + v4_4).toNatClampNeg), .long (0 : Int64), .long (99 : Int64)]) (rest := []) rfl rfl (Nat.le_of_ble_eq_true rfl) ⟨Nat.zero_le _, Nat.zero_le _⟩ dX4_lays_59 (fun H locs hP hD hS => ?_)
            refine W.eq (g2 := F0 m 62 ls [.int (bI r11)]) rfl ?_
            obtain ⟨x13, m014, hq16, hf⟩ := bd2_some hf
            have J15 : ∀ (H : Heap) (locs : List Loc) (ls : Array Slot), va_P E.1 vwCl (wX4 E a m014) H → va_D A (wX4 E a m014) → va_S A s.heap H locs → lv_has ls 5 [(4, .int v4_4), (3, .int x13), (2, .int r2), (0, .ref (a 0)), (1, .int p1)] → W p l e (rmk 3 66) s m [.ref (a 0), .int p1].toArray below meth c H locs 0 0 (MQ below (Qct E A (wX4 E a m0') (some (.int r))) [.ref (a 0), .int p1].toArray s 0 0 A) (F0 m 88 ls []) := by
              intro H locs ls hP hD hS hl
              refine lv_iinc (v := (v4_4 + (1 : Int32))) (lv' := [(4, .int (v4_4 + (1 : Int32))), (3, .int x13), (2, .int r2), (0, .ref (a 0)), (1, .int p1)]) hx hb dX4_lays_88 hl (k := 0) rfl rfl (by decide) rfl (fun ls hl => ?_)
              refine lv_goto (tgt := 21) hx hb dX4_lays_91 (by decide) ?_
              exact ih_4 _ _ _ hf _ _ _ hP hD hS (lv_sub hl [0, 1, 2, 3, 4] rfl)
            refine lv_if_eq (tgt := 88) hx hb dX4_lays_62 (by decide) (fun c12 => ?_) (fun c12 => ?_)
            · have hq16 := ip c12 hq16
              obtain ⟨rfl, rfl⟩ := so2 hq16
              exact J15 _ _ _ hP hD hS (lv_sub hl [0, 1, 2, 3, 4] rfl)
            · have hq16 := im c12 hq16
              refine lv_aload_n hx hb dX4_lays_65 rfl (lv_at hl 3 rfl) ?_
              refine lv_iload hx hb dX4_lays_66 (lv_at hl 0 rfl) ?_
              refine lv_iconst (v := (1 : Int32)) hx hb dX4_lays_68 (by decide) ?_
              refine lv_aload_n hx hb dX4_lays_69 rfl (lv_at hl 3 rfl) ?_
              refine va_get (D := E.1) (ci := 4) (v := .ref (a 17)) (C := RX4) (T := TX4) (N := 18) hx hb hts inX4 hown hE.2.1 hP 0 rfl rfl 16 (by decide) (hE.w tw_614) (fun _ h9 => h9) rfl dX4_lays_70 ?_
              refine lv_bipush (v := (40 : Int32)) hx hb dX4_lays_73 (by decide) ?_
              refine lv_iload_n hx hb dX4_lays_75 rfl (lv_at hl 4 rfl) ?_
              refine lv_imul hx hb dX4_lays_76 ?_
              refine lv_iload hx hb dX4_lays_77 (lv_at hl 0 rfl) ?_
              refine lv_iadd hx hb dX4_lays_79 ?_
              obtain ⟨hg17, hq16⟩ := gd_some hq16
              refine va_lald hx hb hE.2.1 hP 10 1 rfl rfl hg17 dX4_lays_80 ?_
              refine lv_l2i (v := (((g4_number m0_4) (((40 : Int32) * p1) + v4_4).toNatClampNeg).toInt32)) hx hb dX4_lays_81 rfl ?_
              obtain ⟨m19, hc18, hq16⟩ := bd1_some hq16
              refine cV (X := List.take 0 (wX4 E a m0_4)) (Y := List.drop 12 (wX4 E a m0_4)) (w := (wX4 E a m0_4)) (w' := (wX4 E a m19)) (q0 := 0) lk_X4_73 hx hb hml hown hE hA (c_X4_sets l E a m0_4 v4_4 (1 : Int32) (((g4_number m0_4) (((40 : Int32) * p1) + v4_4).toNatClampNeg).toInt32) m19 hc18) rfl rfl hP hD hS rfl rfl ⟨rfl, rfl, Nat.le_of_ble_eq_true rfl, Nat.le_of_ble_eq_true rfl⟩ hl.1 (As := [.int v4_4, .int (1 : Int32), .int (((g4_number m0_4) (((40 : Int32) * p1) + v4_4).toNatClampNeg).toInt32)]) (rest := []) rfl rfl (Nat.le_of_ble_eq_true rfl) ⟨Nat.zero_le _, Nat.zero_le _⟩ dX4_lays_82 (fun H locs hP hD hS => ?_)
              refine W.eq (g2 := F0 m 85 ls []) rfl ?_
              refine lv_iinc (v := (v3_4 + (1 : Int32))) (lv' := [(3, .int (v3_4 + (1 : Int32))), (4, .int v4_4), (2, .int r2), (0, .ref (a 0)), (1, .int p1)]) hx hb dX4_lays_85 hl (k := 1) rfl rfl (by decide) rfl (fun ls hl => ?_)
              obtain ⟨rfl, rfl⟩ := so2 hq16
              exact J15 _ _ _ hP hD hS (lv_sub hl [1, 0, 2, 3, 4] rfl)
    exact L_4 _ _ _ _ hf _ _ _ hP hD hS (lv_sub hl [0, 1, 2, 3, 4] rfl)
  · have hf := im c3 hf
    refine lv_aload_n hx hb dX4_lays_10 rfl (lv_at hl 1 rfl) ?_
    refine lv_iload_n hx hb dX4_lays_11 rfl (lv_at hl 0 rfl) ?_
    obtain ⟨r21, m22, hc20, hf⟩ := bd2_some hf
    refine cV (X := List.take 0 (wX4 E a m0)) (Y := List.drop 12 (wX4 E a m0)) (w := (wX4 E a m0)) (w' := (wX4 E a m22)) (q0 := 0) lk_X4_92 hx hb hml hown hE hA (c_X4_finds l E a m0 r2 r21 m22 hc20) rfl rfl hP hD hS rfl rfl ⟨rfl, rfl, Nat.le_of_ble_eq_true rfl, Nat.le_of_ble_eq_true rfl⟩ hl.1 (As := [.int r2]) (rest := []) rfl rfl (Nat.le_of_ble_eq_true rfl) ⟨Nat.zero_le _, Nat.zero_le _⟩ dX4_lays_12 (fun H locs hP hD hS => ?_)
    refine W.eq (g2 := F0 m 15 ls [.int r21]) rfl ?_
    obtain ⟨rfl, rfl⟩ := so2 hf
    exact rt_i hx hb hr hlocks hP hD hS dX4_lays_15
def lp_X4_book_48 (p1 : Int32) (p2 : Int32) : Nat → (Int32) → (MS) → Option (Int32 × MS)
  | 0, _, _ => none
  | k_13 + 1, v4_13, m0_13 => gd p1 4 (if ((g4_sizeOf m0_13) p1.toNatClampNeg) ≤ v4_13 then bd1 (f_X4_copies_aside_d m0_13) (fun m17 => gd p1 4 (some (((g4_sizeOf m17) p1.toNatClampNeg), m17))) else bd1 (f_X4_doesNow m0_13 p2) (fun r20 => bd1 (f_X4_puts m0_13 p1 v4_13 (r20.toInt64)) (fun m22 => bd1 (f_X4_momentGoes m22) (fun m24 => lp_X4_book_48 p1 p2 k_13 (v4_13 + (1 : Int32)) m24))))
def f_X4_book (m0 : MS) (p1 : Int32) (p2 : Int32) : Option (Int32 × MS) := bd1 (f_X4_whyNone m0 p1) (fun r2 => bd1 (if 0 ≤ r2 then some (r2) else bd1 (f_X4_isPerson m0 p2) (fun r8 => if (bI r8) = 0 then some ((0 : Int32)) else some (r2))) (fun x4 => if x4 < 0 then bd1 (f_X4_copies_d_aside m0) (fun m12 => lp_X4_book_48 p1 p2 FU (0 : Int32) m12) else bd2 (f_X4_finds m0 x4) (fun r26 m27 => some (r26, m27))))
set_option maxHeartbeats 4000000 in
set_option maxRecDepth 100000 in
theorem c_X4_book (l : Launch) (E : EV) (a : Nat → Nat) (m0 : MS) (p1 : Int32) (p2 : Int32)  (r : Int32) (m0' : MS) (hf : f_X4_book m0 p1 p2 = some (r, m0')) : Ct l E yX4_book cX4_book 5 ((Option.some FieldType.int)) (rmk 5 115) [.ref (a 0), .int p1, .int p2] (wX4 E a m0) (wX4 E a m0') (some (.int r)) := by
  refine Ct.of (by decide) (Nat.le_of_ble_eq_true rfl) ?_
  intro p e s m below meth c A ls hC hP hD hl
  obtain ⟨hx, hb, hr, hml, hown, hlocks, hE, hA⟩ := hC
  have hts : ∀ w ∈ tbl, w.before [.ref (a 0), .int p1, .int p2].toArray s = true := fun w hw => hE.w hw
  have hS : va_S A s.heap s.heap [] := va_S.rf
  have hl : lv_has ls 5 [(0, .ref (a 0)), (1, .int p1), (2, .int p2)] := hl
  unfold f_X4_book at hf
  refine lv_aload_n hx hb dX4_book_0 rfl (lv_at hl 0 rfl) ?_
  refine lv_iload_n hx hb dX4_book_1 rfl (lv_at hl 1 rfl) ?_
  obtain ⟨r2, hc1, hf⟩ := bd1_some hf
  refine cV (X := List.take 0 (wX4 E a m0)) (Y := List.drop 12 (wX4 E a m0)) (w := (wX4 E a m0)) (w' := (wX4 E a m0)) (q0 := 0) lk_X4_268 hx hb hml hown hE hA (c_X4_whyNone l E a m0 p1 r2 hc1) rfl rfl hP hD hS rfl rfl ⟨rfl, rfl, Nat.le_of_ble_eq_true rfl, Nat.le_of_ble_eq_true rfl⟩ hl.1 (As := [.int p1]) (rest := []) rfl rfl (Nat.le_of_ble_eq_true rfl) ⟨Nat.zero_le _, Nat.zero_le _⟩ dX4_book_2 (fun H locs hP hD hS => ?_)
  refine W.eq (g2 := F0 m 5 ls [.int r2]) rfl ?_
  refine lv_istore_n (lv' := [(3, .int r2), (0, .ref (a 0)), (1, .int p1), (2, .int p2)]) hx hb dX4_book_5 rfl hl (by decide) rfl (fun ls hl => ?_)
  refine lv_iload_n hx hb dX4_book_6 rfl (lv_at hl 0 rfl) ?_
  obtain ⟨x4, hq6, hf⟩ := bd1_some hf
  have J5 : ∀ (H : Heap) (locs : List Loc) (ls : Array Slot), va_P E.1 vwCl (wX4 E a m0) H → va_D A (wX4 E a m0) → va_S A s.heap H locs → lv_has ls 5 [(3, .int r2), (0, .ref (a 0)), (1, .int p1), (2, .int p2)] → W p l e (rmk 5 115) s m [.ref (a 0), .int p1, .int p2].toArray below meth c H locs 0 0 (MQ below (Qct E A (wX4 E a m0') (some (.int r))) [.ref (a 0), .int p1, .int p2].toArray s 0 0 A) (F0 m 23 ls [.int x4]) := by
    intro H locs ls hP hD hS hl
    refine lv_istore_n (lv' := [(3, .int x4), (0, .ref (a 0)), (1, .int p1), (2, .int p2)]) hx hb dX4_book_23 rfl hl (by decide) rfl (fun ls hl => ?_)
    refine lv_iload_n hx hb dX4_book_24 rfl (lv_at hl 0 rfl) ?_
    refine lv_if_lt (tgt := 34) hx hb dX4_book_25 (by decide) (fun c10 => ?_) (fun c10 => ?_)
    · have hf := ip c10 hf
      refine lv_aload_n hx hb dX4_book_34 rfl (lv_at hl 1 rfl) ?_
      refine va_get (D := E.1) (ci := 4) (v := .ref (a 1)) (C := RX4) (T := TX4) (N := 18) hx hb hts inX4 hown hE.2.1 hP 0 rfl rfl 0 (by decide) (hE.w tw_598) (fun _ h9 => h9) rfl dX4_book_35 ?_
      refine lv_aload_n hx hb dX4_book_38 rfl (lv_at hl 1 rfl) ?_
      refine va_get (D := E.1) (ci := 4) (v := .ref (a 3)) (C := RX4) (T := TX4) (N := 18) hx hb hts inX4 hown hE.2.1 hP 0 rfl rfl 2 (by decide) (hE.w tw_600) (fun _ h9 => h9) rfl dX4_book_39 ?_
      obtain ⟨m12, hc11, hf⟩ := bd1_some hf
      refine cS (X := List.take 0 (wX4 E a m0)) (Y := List.drop 12 (wX4 E a m0)) (w := (wX4 E a m0)) (w' := (wX4 E a m12)) lk_X4_129 hx hb hml hown hE hA (c_X4_copies_d_aside l E a m0 m12 hc11) rfl rfl hP hD hS ⟨rfl, rfl, Nat.le_of_ble_eq_true rfl, Nat.le_of_ble_eq_true rfl⟩ hl.1 (As := [.ref (a 1), .ref (a 3)]) (rest := []) rfl rfl (Nat.le_of_ble_eq_true rfl) ⟨Nat.zero_le _, Nat.zero_le _⟩ dX4_book_42 (fun H locs hP hD hS => ?_)
      refine W.eq (g2 := F0 m 45 ls []) rfl ?_
      refine lv_iconst (v := (0 : Int32)) hx hb dX4_book_45 (by decide) ?_
      refine lv_istore (lv' := [(4, .int (0 : Int32)), (3, .int x4), (0, .ref (a 0)), (1, .int p1), (2, .int p2)]) hx hb dX4_book_46 hl (by decide) rfl (fun ls hl => ?_)
      have L_13 : ∀ (k_13 : Nat) (v4_13 : Int32) (m0_13 : MS), lp_X4_book_48 p1 p2 k_13 v4_13 m0_13 = some (r, m0') → ∀ (H : Heap) (locs : List Loc) (ls : Array Slot), va_P E.1 vwCl (wX4 E a m0_13) H → va_D A (wX4 E a m0_13) → va_S A s.heap H locs → lv_has ls 5 [(4, .int v4_13), (3, .int x4), (0, .ref (a 0)), (1, .int p1), (2, .int p2)] → W p l e (rmk 5 115) s m [.ref (a 0), .int p1, .int p2].toArray below meth c H locs 0 0 (MQ below (Qct E A (wX4 E a m0') (some (.int r))) [.ref (a 0), .int p1, .int p2].toArray s 0 0 A) (F0 m 48 ls []) := by
        intro k_13
        induction k_13 with
        | zero =>
          intro v4_13 m0_13 hf
          rw [lp_X4_book_48] at hf
          cases hf
        | succ k_13 ih_13 =>
          intro v4_13 m0_13 hf H locs ls hP hD hS hl
          rw [lp_X4_book_48] at hf
          refine lv_iload hx hb dX4_book_48 (lv_at hl 0 rfl) ?_
          refine lv_aload_n hx hb dX4_book_50 rfl (lv_at hl 2 rfl) ?_
          refine va_get (D := E.1) (ci := 4) (v := .ref (a 16)) (C := RX4) (T := TX4) (N := 18) hx hb hts inX4 hown hE.2.1 hP 0 rfl rfl 15 (by decide) (hE.w tw_613) (fun _ h9 => h9) rfl dX4_book_51 ?_
          refine lv_iload_n hx hb dX4_book_54 rfl (lv_at hl 3 rfl) ?_
          obtain ⟨hg14, hf⟩ := gd_some hf
          refine va_iald hx hb hE.2.1 hP 9 0 rfl rfl hg14 dX4_book_55 ?_
          refine lv_icmp_ge (tgt := 82) hx hb dX4_book_56 (by decide) (fun c15 => ?_) (fun c15 => ?_)
          · have hf := ip c15 hf
            refine lv_aload_n hx hb dX4_book_82 rfl (lv_at hl 2 rfl) ?_
            refine va_get (D := E.1) (ci := 4) (v := .ref (a 3)) (C := RX4) (T := TX4) (N := 18) hx hb hts inX4 hown hE.2.1 hP 0 rfl rfl 2 (by decide) (hE.w tw_600) (fun _ h9 => h9) rfl dX4_book_83 ?_
            refine lv_aload_n hx hb dX4_book_86 rfl (lv_at hl 2 rfl) ?_
            refine va_get (D := E.1) (ci := 4) (v := .ref (a 1)) (C := RX4) (T := TX4) (N := 18) hx hb hts inX4 hown hE.2.1 hP 0 rfl rfl 0 (by decide) (hE.w tw_598) (fun _ h9 => h9) rfl dX4_book_87 ?_
            obtain ⟨m17, hc16, hf⟩ := bd1_some hf
            refine cS (X := List.take 0 (wX4 E a m0_13)) (Y := List.drop 12 (wX4 E a m0_13)) (w := (wX4 E a m0_13)) (w' := (wX4 E a m17)) lk_X4_129 hx hb hml hown hE hA (c_X4_copies_aside_d l E a m0_13 m17 hc16) rfl rfl hP hD hS ⟨rfl, rfl, Nat.le_of_ble_eq_true rfl, Nat.le_of_ble_eq_true rfl⟩ hl.1 (As := [.ref (a 3), .ref (a 1)]) (rest := []) rfl rfl (Nat.le_of_ble_eq_true rfl) ⟨Nat.zero_le _, Nat.zero_le _⟩ dX4_book_90 (fun H locs hP hD hS => ?_)
            refine W.eq (g2 := F0 m 93 ls []) rfl ?_
            refine lv_aload_n hx hb dX4_book_93 rfl (lv_at hl 2 rfl) ?_
            refine va_get (D := E.1) (ci := 4) (v := .ref (a 16)) (C := RX4) (T := TX4) (N := 18) hx hb hts inX4 hown hE.2.1 hP 0 rfl rfl 15 (by decide) (hE.w tw_613) (fun _ h9 => h9) rfl dX4_book_94 ?_
            refine lv_iload_n hx hb dX4_book_97 rfl (lv_at hl 3 rfl) ?_
            obtain ⟨hg18, hf⟩ := gd_some hf
            refine va_iald hx hb hE.2.1 hP 9 0 rfl rfl hg18 dX4_book_98 ?_
            obtain ⟨rfl, rfl⟩ := so2 hf
            exact rt_i hx hb hr hlocks hP hD hS dX4_book_99
          · have hf := im c15 hf
            refine lv_aload_n hx hb dX4_book_59 rfl (lv_at hl 2 rfl) ?_
            refine lv_iload_n hx hb dX4_book_60 rfl (lv_at hl 3 rfl) ?_
            refine lv_iload hx hb dX4_book_61 (lv_at hl 0 rfl) ?_
            refine lv_aload_n hx hb dX4_book_63 rfl (lv_at hl 2 rfl) ?_
            refine lv_iload_n hx hb dX4_book_64 rfl (lv_at hl 4 rfl) ?_
            obtain ⟨r20, hc19, hf⟩ := bd1_some hf
            refine cV (X := List.take 0 (wX4 E a m0_13)) (Y := List.drop 12 (wX4 E a m0_13)) (w := (wX4 E a m0_13)) (w' := (wX4 E a m0_13)) (q0 := 0) lk_X4_66 hx hb hml hown hE hA (c_X4_doesNow l E a m0_13 p2 r20 hc19) rfl rfl hP hD hS rfl rfl ⟨rfl, rfl, Nat.le_of_ble_eq_true rfl, Nat.le_of_ble_eq_true rfl⟩ hl.1 (As := [.int p2]) (rest := [.int v4_13, .int p1, .ref (a 0)]) rfl rfl (Nat.le_of_ble_eq_true rfl) ⟨Nat.zero_le _, Nat.zero_le _⟩ dX4_book_65 (fun H locs hP hD hS => ?_)
            refine W.eq (g2 := F0 m 68 ls [.int r20, .int v4_13, .int p1, .ref (a 0)]) rfl ?_
            refine lv_i2l (v := (r20.toInt64)) hx hb dX4_book_68 rfl ?_
            obtain ⟨m22, hc21, hf⟩ := bd1_some hf
            refine cV (X := List.take 0 (wX4 E a m0_13)) (Y := List.drop 12 (wX4 E a m0_13)) (w := (wX4 E a m0_13)) (w' := (wX4 E a m22)) (q0 := 0) lk_X4_271 hx hb hml hown hE hA (c_X4_puts l E a m0_13 p1 v4_13 (r20.toInt64) m22 hc21) rfl rfl hP hD hS rfl rfl ⟨rfl, rfl, Nat.le_of_ble_eq_true rfl, Nat.le_of_ble_eq_true rfl⟩ hl.1 (As := [.int p1, .int v4_13, .long (r20.toInt64)]) (rest := []) rfl rfl (Nat.le_of_ble_eq_true rfl) ⟨Nat.zero_le _, Nat.zero_le _⟩ dX4_book_69 (fun H locs hP hD hS => ?_)
            refine W.eq (g2 := F0 m 72 ls []) rfl ?_
            refine lv_aload_n hx hb dX4_book_72 rfl (lv_at hl 2 rfl) ?_
            obtain ⟨m24, hc23, hf⟩ := bd1_some hf
            refine cV (X := List.take 0 (wX4 E a m22)) (Y := List.drop 12 (wX4 E a m22)) (w := (wX4 E a m22)) (w' := (wX4 E a m24)) (q0 := 0) lk_X4_80 hx hb hml hown hE hA (c_X4_momentGoes l E a m22 m24 hc23) rfl rfl hP hD hS rfl rfl ⟨rfl, rfl, Nat.le_of_ble_eq_true rfl, Nat.le_of_ble_eq_true rfl⟩ hl.1 (As := []) (rest := []) rfl rfl (Nat.le_of_ble_eq_true rfl) ⟨Nat.zero_le _, Nat.zero_le _⟩ dX4_book_73 (fun H locs hP hD hS => ?_)
            refine W.eq (g2 := F0 m 76 ls []) rfl ?_
            refine lv_iinc (v := (v4_13 + (1 : Int32))) (lv' := [(4, .int (v4_13 + (1 : Int32))), (3, .int x4), (0, .ref (a 0)), (1, .int p1), (2, .int p2)]) hx hb dX4_book_76 hl (k := 0) rfl rfl (by decide) rfl (fun ls hl => ?_)
            refine lv_goto (tgt := 48) hx hb dX4_book_79 (by decide) ?_
            exact ih_13 _ _ hf _ _ _ hP hD hS (lv_sub hl [0, 1, 2, 3, 4] rfl)
      exact L_13 _ _ _ hf _ _ _ hP hD hS (lv_sub hl [0, 1, 2, 3, 4] rfl)
    · have hf := im c10 hf
      refine lv_aload_n hx hb dX4_book_28 rfl (lv_at hl 1 rfl) ?_
      refine lv_iload_n hx hb dX4_book_29 rfl (lv_at hl 0 rfl) ?_
      obtain ⟨r26, m27, hc25, hf⟩ := bd2_some hf
      refine cV (X := List.take 0 (wX4 E a m0)) (Y := List.drop 12 (wX4 E a m0)) (w := (wX4 E a m0)) (w' := (wX4 E a m27)) (q0 := 0) lk_X4_92 hx hb hml hown hE hA (c_X4_finds l E a m0 x4 r26 m27 hc25) rfl rfl hP hD hS rfl rfl ⟨rfl, rfl, Nat.le_of_ble_eq_true rfl, Nat.le_of_ble_eq_true rfl⟩ hl.1 (As := [.int x4]) (rest := []) rfl rfl (Nat.le_of_ble_eq_true rfl) ⟨Nat.zero_le _, Nat.zero_le _⟩ dX4_book_30 (fun H locs hP hD hS => ?_)
      refine W.eq (g2 := F0 m 33 ls [.int r26]) rfl ?_
      obtain ⟨rfl, rfl⟩ := so2 hf
      exact rt_i hx hb hr hlocks hP hD hS dX4_book_33
  refine lv_if_ge (tgt := 22) hx hb dX4_book_7 (by decide) (fun c3 => ?_) (fun c3 => ?_)
  · have hq6 := ip c3 hq6
    refine lv_iload_n hx hb dX4_book_22 rfl (lv_at hl 0 rfl) ?_
    obtain rfl := so1 hq6
    exact J5 _ _ _ hP hD hS (lv_sub hl [0, 1, 2, 3] rfl)
  · have hq6 := im c3 hq6
    refine lv_aload_n hx hb dX4_book_10 rfl (lv_at hl 1 rfl) ?_
    refine lv_iload_n hx hb dX4_book_11 rfl (lv_at hl 3 rfl) ?_
    obtain ⟨r8, hc7, hq6⟩ := bd1_some hq6
    refine cV (X := List.take 0 (wX4 E a m0)) (Y := List.drop 12 (wX4 E a m0)) (w := (wX4 E a m0)) (w' := (wX4 E a m0)) (q0 := 0) lk_X4_50 hx hb hml hown hE hA (c_X4_isPerson l E a m0 p2 r8 hc7) rfl rfl hP hD hS rfl rfl ⟨rfl, rfl, Nat.le_of_ble_eq_true rfl, Nat.le_of_ble_eq_true rfl⟩ hl.1 (As := [.int p2]) (rest := []) rfl rfl (Nat.le_of_ble_eq_true rfl) ⟨Nat.zero_le _, Nat.zero_le _⟩ dX4_book_12 (fun H locs hP hD hS => ?_)
    refine W.eq (g2 := F0 m 15 ls [.int (bI r8)]) rfl ?_
    refine lv_if_ne (tgt := 22) hx hb dX4_book_15 (by decide) (fun c9 => ?_) (fun c9 => ?_)
    · have hq6 := im c9 hq6
      refine lv_iload_n hx hb dX4_book_22 rfl (lv_at hl 0 rfl) ?_
      obtain rfl := so1 hq6
      exact J5 _ _ _ hP hD hS (lv_sub hl [0, 1, 2, 3] rfl)
    · have hq6 := ip c9 hq6
      refine lv_iconst (v := (0 : Int32)) hx hb dX4_book_18 (by decide) ?_
      refine lv_goto (tgt := 23) hx hb dX4_book_19 (by decide) ?_
      obtain rfl := so1 hq6
      exact J5 _ _ _ hP hD hS (lv_sub hl [0, 1, 2, 3] rfl)
def lp_X4_read_87 (p1 : Int32) (p2 : Int32) (K : (Int32) → (Int32) → (MS) → Option (Int32 × MS)) : Nat → (Int32) → (Int32) → (MS) → Option (Int32 × MS)
  | 0, _, _, _ => none
  | k_19 + 1, v7_19, v6_19, m0_19 => gd p1 4 (if ((g4_sizeOf m0_19) p1.toNatClampNeg) ≤ v7_19 then K v7_19 v6_19 m0_19 else if v6_19 = 0 then K v7_19 v6_19 m0_19 else gd (((40 : Int32) * p1) + v7_19) 160 (bd1 (f_X4_doesNow m0_19 p2) (fun r25 => jn1 (if ((g4_number m0_19) (((40 : Int32) * p1) + v7_19).toNatClampNeg) = (r25.toInt64) then ((1 : Int32)) else ((0 : Int32))) (fun x27 => bd1 (f_X4_momentGoes m0_19) (fun m31 => lp_X4_read_87 p1 p2 K k_19 (v7_19 + (1 : Int32)) x27 m31)))))
def lp_X4_read_51 (p1 : Int32) (p2 : Int32) : Nat → (Int32) → (Int32) → (MS) → Option (Int32 × MS)
  | 0, _, _, _ => none
  | k_13 + 1, v5_13, v4_13, m0_13 => if (600 : Int32) ≤ v5_13 then some (v4_13, m0_13) else bd1 (f_X4_sets m0_13 p2 (0 : Int32) (v5_13 / (100 : Int32))) (fun m16 => bd1 (f_X4_sets m16 p2 (1 : Int32) (v5_13 - (v5_13 / (100 : Int32)) * (100 : Int32))) (fun m18 => lp_X4_read_87 p1 p2 (fun (v7_32 : Int32) (v6_32 : Int32) (m0_32 : MS) => bd1 (f_X4_copies_aside_d m0_32) (fun m34 => jn1 (if v6_32 = 0 then ((0 : Int32)) else ((1 : Int32))) (fun x36 => lp_X4_read_51 p1 p2 k_13 (v5_13 + (1 : Int32)) (v4_13 + x36) m34))) FU (0 : Int32) (1 : Int32) m18))
def f_X4_read (m0 : MS) (p1 : Int32) (p2 : Int32) : Option (Int32 × MS) := bd1 (f_X4_whyNone m0 p1) (fun r2 => bd1 (if 0 ≤ r2 then some (r2) else bd1 (f_X4_isPerson m0 p2) (fun r8 => if (bI r8) = 0 then some ((0 : Int32)) else some (r2))) (fun x4 => if x4 < 0 then bd1 (f_X4_copies_d_aside m0) (fun m12 => lp_X4_read_51 p1 p2 FU (0 : Int32) (0 : Int32) m12) else bd2 (f_X4_finds m0 x4) (fun r40 m41 => some (r40, m41))))
set_option maxHeartbeats 4000000 in
set_option maxRecDepth 100000 in
theorem c_X4_read (l : Launch) (E : EV) (a : Nat → Nat) (m0 : MS) (p1 : Int32) (p2 : Int32)  (r : Int32) (m0' : MS) (hf : f_X4_read m0 p1 p2 = some (r, m0')) : Ct l E yX4_read cX4_read 8 ((Option.some FieldType.int)) (rmk 5 115) [.ref (a 0), .int p1, .int p2] (wX4 E a m0) (wX4 E a m0') (some (.int r)) := by
  refine Ct.of (by decide) (Nat.le_of_ble_eq_true rfl) ?_
  intro p e s m below meth c A ls hC hP hD hl
  obtain ⟨hx, hb, hr, hml, hown, hlocks, hE, hA⟩ := hC
  have hts : ∀ w ∈ tbl, w.before [.ref (a 0), .int p1, .int p2].toArray s = true := fun w hw => hE.w hw
  have hS : va_S A s.heap s.heap [] := va_S.rf
  have hl : lv_has ls 8 [(0, .ref (a 0)), (1, .int p1), (2, .int p2)] := hl
  unfold f_X4_read at hf
  refine lv_aload_n hx hb dX4_read_0 rfl (lv_at hl 0 rfl) ?_
  refine lv_iload_n hx hb dX4_read_1 rfl (lv_at hl 1 rfl) ?_
  obtain ⟨r2, hc1, hf⟩ := bd1_some hf
  refine cV (X := List.take 0 (wX4 E a m0)) (Y := List.drop 12 (wX4 E a m0)) (w := (wX4 E a m0)) (w' := (wX4 E a m0)) (q0 := 0) lk_X4_268 hx hb hml hown hE hA (c_X4_whyNone l E a m0 p1 r2 hc1) rfl rfl hP hD hS rfl rfl ⟨rfl, rfl, Nat.le_of_ble_eq_true rfl, Nat.le_of_ble_eq_true rfl⟩ hl.1 (As := [.int p1]) (rest := []) rfl rfl (Nat.le_of_ble_eq_true rfl) ⟨Nat.zero_le _, Nat.zero_le _⟩ dX4_read_2 (fun H locs hP hD hS => ?_)
  refine W.eq (g2 := F0 m 5 ls [.int r2]) rfl ?_
  refine lv_istore_n (lv' := [(3, .int r2), (0, .ref (a 0)), (1, .int p1), (2, .int p2)]) hx hb dX4_read_5 rfl hl (by decide) rfl (fun ls hl => ?_)
  refine lv_iload_n hx hb dX4_read_6 rfl (lv_at hl 0 rfl) ?_
  obtain ⟨x4, hq6, hf⟩ := bd1_some hf
  have J5 : ∀ (H : Heap) (locs : List Loc) (ls : Array Slot), va_P E.1 vwCl (wX4 E a m0) H → va_D A (wX4 E a m0) → va_S A s.heap H locs → lv_has ls 8 [(3, .int r2), (0, .ref (a 0)), (1, .int p1), (2, .int p2)] → W p l e (rmk 5 115) s m [.ref (a 0), .int p1, .int p2].toArray below meth c H locs 0 0 (MQ below (Qct E A (wX4 E a m0') (some (.int r))) [.ref (a 0), .int p1, .int p2].toArray s 0 0 A) (F0 m 23 ls [.int x4]) := by
    intro H locs ls hP hD hS hl
    refine lv_istore_n (lv' := [(3, .int x4), (0, .ref (a 0)), (1, .int p1), (2, .int p2)]) hx hb dX4_read_23 rfl hl (by decide) rfl (fun ls hl => ?_)
    refine lv_iload_n hx hb dX4_read_24 rfl (lv_at hl 0 rfl) ?_
    refine lv_if_lt (tgt := 34) hx hb dX4_read_25 (by decide) (fun c10 => ?_) (fun c10 => ?_)
    · have hf := ip c10 hf
      refine lv_aload_n hx hb dX4_read_34 rfl (lv_at hl 1 rfl) ?_
      refine va_get (D := E.1) (ci := 4) (v := .ref (a 1)) (C := RX4) (T := TX4) (N := 18) hx hb hts inX4 hown hE.2.1 hP 0 rfl rfl 0 (by decide) (hE.w tw_598) (fun _ h9 => h9) rfl dX4_read_35 ?_
      refine lv_aload_n hx hb dX4_read_38 rfl (lv_at hl 1 rfl) ?_
      refine va_get (D := E.1) (ci := 4) (v := .ref (a 3)) (C := RX4) (T := TX4) (N := 18) hx hb hts inX4 hown hE.2.1 hP 0 rfl rfl 2 (by decide) (hE.w tw_600) (fun _ h9 => h9) rfl dX4_read_39 ?_
      obtain ⟨m12, hc11, hf⟩ := bd1_some hf
      refine cS (X := List.take 0 (wX4 E a m0)) (Y := List.drop 12 (wX4 E a m0)) (w := (wX4 E a m0)) (w' := (wX4 E a m12)) lk_X4_129 hx hb hml hown hE hA (c_X4_copies_d_aside l E a m0 m12 hc11) rfl rfl hP hD hS ⟨rfl, rfl, Nat.le_of_ble_eq_true rfl, Nat.le_of_ble_eq_true rfl⟩ hl.1 (As := [.ref (a 1), .ref (a 3)]) (rest := []) rfl rfl (Nat.le_of_ble_eq_true rfl) ⟨Nat.zero_le _, Nat.zero_le _⟩ dX4_read_42 (fun H locs hP hD hS => ?_)
      refine W.eq (g2 := F0 m 45 ls []) rfl ?_
      refine lv_iconst (v := (0 : Int32)) hx hb dX4_read_45 (by decide) ?_
      refine lv_istore (lv' := [(4, .int (0 : Int32)), (3, .int x4), (0, .ref (a 0)), (1, .int p1), (2, .int p2)]) hx hb dX4_read_46 hl (by decide) rfl (fun ls hl => ?_)
      refine lv_iconst (v := (0 : Int32)) hx hb dX4_read_48 (by decide) ?_
      refine lv_istore (lv' := [(5, .int (0 : Int32)), (4, .int (0 : Int32)), (3, .int x4), (0, .ref (a 0)), (1, .int p1), (2, .int p2)]) hx hb dX4_read_49 hl (by decide) rfl (fun ls hl => ?_)
      have L_13 : ∀ (k_13 : Nat) (v5_13 : Int32) (v4_13 : Int32) (m0_13 : MS), lp_X4_read_51 p1 p2 k_13 v5_13 v4_13 m0_13 = some (r, m0') → ∀ (H : Heap) (locs : List Loc) (ls : Array Slot), va_P E.1 vwCl (wX4 E a m0_13) H → va_D A (wX4 E a m0_13) → va_S A s.heap H locs → lv_has ls 8 [(5, .int v5_13), (4, .int v4_13), (3, .int x4), (0, .ref (a 0)), (1, .int p1), (2, .int p2)] → W p l e (rmk 5 115) s m [.ref (a 0), .int p1, .int p2].toArray below meth c H locs 0 0 (MQ below (Qct E A (wX4 E a m0') (some (.int r))) [.ref (a 0), .int p1, .int p2].toArray s 0 0 A) (F0 m 51 ls []) := by
        intro k_13
        induction k_13 with
        | zero =>
          intro v5_13 v4_13 m0_13 hf
          rw [lp_X4_read_51] at hf
          cases hf
        | succ k_13 ih_13 =>
          intro v5_13 v4_13 m0_13 hf H locs ls hP hD hS hl
          rw [lp_X4_read_51] at hf
          refine lv_iload hx hb dX4_read_51 (lv_at hl 0 rfl) ?_
          refine lv_sipush (v := (600 : Int32)) hx hb dX4_read_53 (by decide) ?_
          refine lv_icmp_ge (tgt := 174) hx hb dX4_read_56 (by decide) (fun c14 => ?_) (fun c14 => ?_)
          · have hf := ip c14 hf
            refine lv_iload hx hb dX4_read_174 (lv_at hl 1 rfl) ?_
            obtain ⟨rfl, rfl⟩ := so2 hf
            exact rt_i hx hb hr hlocks hP hD hS dX4_read_176
          · have hf := im c14 hf
            refine lv_aload_n hx hb dX4_read_59 rfl (lv_at hl 3 rfl) ?_
            refine lv_iload_n hx hb dX4_read_60 rfl (lv_at hl 5 rfl) ?_
            refine lv_iconst (v := (0 : Int32)) hx hb dX4_read_61 (by decide) ?_
            refine lv_iload hx hb dX4_read_62 (lv_at hl 0 rfl) ?_
            refine lv_bipush (v := (100 : Int32)) hx hb dX4_read_64 (by decide) ?_
            refine lv_idiv hx hb dX4_read_66 (by decide) ?_
            obtain ⟨m16, hc15, hf⟩ := bd1_some hf
            refine cV (X := List.take 0 (wX4 E a m0_13)) (Y := List.drop 12 (wX4 E a m0_13)) (w := (wX4 E a m0_13)) (w' := (wX4 E a m16)) (q0 := 0) lk_X4_73 hx hb hml hown hE hA (c_X4_sets l E a m0_13 p2 (0 : Int32) (v5_13 / (100 : Int32)) m16 hc15) rfl rfl hP hD hS rfl rfl ⟨rfl, rfl, Nat.le_of_ble_eq_true rfl, Nat.le_of_ble_eq_true rfl⟩ hl.1 (As := [.int p2, .int (0 : Int32), .int (v5_13 / (100 : Int32))]) (rest := []) rfl rfl (Nat.le_of_ble_eq_true rfl) ⟨Nat.zero_le _, Nat.zero_le _⟩ dX4_read_67 (fun H locs hP hD hS => ?_)
            refine W.eq (g2 := F0 m 70 ls []) rfl ?_
            refine lv_aload_n hx hb dX4_read_70 rfl (lv_at hl 3 rfl) ?_
            refine lv_iload_n hx hb dX4_read_71 rfl (lv_at hl 5 rfl) ?_
            refine lv_iconst (v := (1 : Int32)) hx hb dX4_read_72 (by decide) ?_
            refine lv_iload hx hb dX4_read_73 (lv_at hl 0 rfl) ?_
            refine lv_bipush (v := (100 : Int32)) hx hb dX4_read_75 (by decide) ?_
            refine lv_irem hx hb dX4_read_77 (by decide) ?_
            obtain ⟨m18, hc17, hf⟩ := bd1_some hf
            refine cV (X := List.take 0 (wX4 E a m16)) (Y := List.drop 12 (wX4 E a m16)) (w := (wX4 E a m16)) (w' := (wX4 E a m18)) (q0 := 0) lk_X4_73 hx hb hml hown hE hA (c_X4_sets l E a m16 p2 (1 : Int32) (v5_13 - (v5_13 / (100 : Int32)) * (100 : Int32)) m18 hc17) rfl rfl hP hD hS rfl rfl ⟨rfl, rfl, Nat.le_of_ble_eq_true rfl, Nat.le_of_ble_eq_true rfl⟩ hl.1 (As := [.int p2, .int (1 : Int32), .int (v5_13 - (v5_13 / (100 : Int32)) * (100 : Int32))]) (rest := []) rfl rfl (Nat.le_of_ble_eq_true rfl) ⟨Nat.zero_le _, Nat.zero_le _⟩ dX4_read_78 (fun H locs hP hD hS => ?_)
            refine W.eq (g2 := F0 m 81 ls []) rfl ?_
            refine lv_iconst (v := (1 : Int32)) hx hb dX4_read_81 (by decide) ?_
            refine lv_istore (lv' := [(6, .int (1 : Int32)), (5, .int v5_13), (4, .int v4_13), (3, .int x4), (0, .ref (a 0)), (1, .int p1), (2, .int p2)]) hx hb dX4_read_82 hl (by decide) rfl (fun ls hl => ?_)
            refine lv_iconst (v := (0 : Int32)) hx hb dX4_read_84 (by decide) ?_
            refine lv_istore (lv' := [(7, .int (0 : Int32)), (6, .int (1 : Int32)), (5, .int v5_13), (4, .int v4_13), (3, .int x4), (0, .ref (a 0)), (1, .int p1), (2, .int p2)]) hx hb dX4_read_85 hl (by decide) rfl (fun ls hl => ?_)
            have hX : ∀ (H : Heap) (locs : List Loc) (ls : Array Slot) (v7_32 : Int32) (v6_32 : Int32) (m0_32 : MS), (fun (v7_32 : Int32) (v6_32 : Int32) (m0_32 : MS) => bd1 (f_X4_copies_aside_d m0_32) (fun m34 => jn1 (if v6_32 = 0 then ((0 : Int32)) else ((1 : Int32))) (fun x36 => lp_X4_read_51 p1 p2 k_13 (v5_13 + (1 : Int32)) (v4_13 + x36) m34))) v7_32 v6_32 m0_32 = some (r, m0') → va_P E.1 vwCl (wX4 E a m0_32) H → va_D A (wX4 E a m0_32) → va_S A s.heap H locs → lv_has ls 8 [(7, .int v7_32), (6, .int v6_32), (5, .int v5_13), (4, .int v4_13), (3, .int x4), (0, .ref (a 0)), (1, .int p1), (2, .int p2)] → W p l e (rmk 5 115) s m [.ref (a 0), .int p1, .int p2].toArray below meth c H locs 0 0 (MQ below (Qct E A (wX4 E a m0') (some (.int r))) [.ref (a 0), .int p1, .int p2].toArray s 0 0 A) (F0 m 142 ls []) := by
              intro H locs ls v7_32 v6_32 m0_32 hf hP hD hS hl
              refine lv_aload_n hx hb dX4_read_142 rfl (lv_at hl 5 rfl) ?_
              refine va_get (D := E.1) (ci := 4) (v := .ref (a 3)) (C := RX4) (T := TX4) (N := 18) hx hb hts inX4 hown hE.2.1 hP 0 rfl rfl 2 (by decide) (hE.w tw_600) (fun _ h9 => h9) rfl dX4_read_143 ?_
              refine lv_aload_n hx hb dX4_read_146 rfl (lv_at hl 5 rfl) ?_
              refine va_get (D := E.1) (ci := 4) (v := .ref (a 1)) (C := RX4) (T := TX4) (N := 18) hx hb hts inX4 hown hE.2.1 hP 0 rfl rfl 0 (by decide) (hE.w tw_598) (fun _ h9 => h9) rfl dX4_read_147 ?_
              obtain ⟨m34, hc33, hf⟩ := bd1_some hf
              refine cS (X := List.take 0 (wX4 E a m0_32)) (Y := List.drop 12 (wX4 E a m0_32)) (w := (wX4 E a m0_32)) (w' := (wX4 E a m34)) lk_X4_129 hx hb hml hown hE hA (c_X4_copies_aside_d l E a m0_32 m34 hc33) rfl rfl hP hD hS ⟨rfl, rfl, Nat.le_of_ble_eq_true rfl, Nat.le_of_ble_eq_true rfl⟩ hl.1 (As := [.ref (a 3), .ref (a 1)]) (rest := []) rfl rfl (Nat.le_of_ble_eq_true rfl) ⟨Nat.zero_le _, Nat.zero_le _⟩ dX4_read_150 (fun H locs hP hD hS => ?_)
              refine W.eq (g2 := F0 m 153 ls []) rfl ?_
              refine lv_iload hx hb dX4_read_153 (lv_at hl 3 rfl) ?_
              refine lv_iload hx hb dX4_read_155 (lv_at hl 1 rfl) ?_
              obtain ⟨x36, hq38, hf⟩ := jn1_some hf
              have J37 : ∀ (H : Heap) (locs : List Loc) (ls : Array Slot), va_P E.1 vwCl (wX4 E a m34) H → va_D A (wX4 E a m34) → va_S A s.heap H locs → lv_has ls 8 [(7, .int v7_32), (6, .int v6_32), (5, .int v5_13), (4, .int v4_13), (3, .int x4), (0, .ref (a 0)), (1, .int p1), (2, .int p2)] → W p l e (rmk 5 115) s m [.ref (a 0), .int p1, .int p2].toArray below meth c H locs 0 0 (MQ below (Qct E A (wX4 E a m0') (some (.int r))) [.ref (a 0), .int p1, .int p2].toArray s 0 0 A) (F0 m 165 ls [.int x36, .int v4_13]) := by
                intro H locs ls hP hD hS hl
                refine lv_iadd hx hb dX4_read_165 ?_
                refine lv_istore (lv' := [(4, .int (v4_13 + x36)), (7, .int v7_32), (6, .int v6_32), (5, .int v5_13), (3, .int x4), (0, .ref (a 0)), (1, .int p1), (2, .int p2)]) hx hb dX4_read_166 hl (by decide) rfl (fun ls hl => ?_)
                refine lv_iinc (v := (v5_13 + (1 : Int32))) (lv' := [(5, .int (v5_13 + (1 : Int32))), (4, .int (v4_13 + x36)), (7, .int v7_32), (6, .int v6_32), (3, .int x4), (0, .ref (a 0)), (1, .int p1), (2, .int p2)]) hx hb dX4_read_168 hl (k := 3) rfl rfl (by decide) rfl (fun ls hl => ?_)
                refine lv_goto (tgt := 51) hx hb dX4_read_171 (by decide) ?_
                exact ih_13 _ _ _ hf _ _ _ hP hD hS (lv_sub hl [0, 1, 4, 5, 6, 7] rfl)
              refine lv_if_eq (tgt := 164) hx hb dX4_read_157 (by decide) (fun c35 => ?_) (fun c35 => ?_)
              · have hq38 := ie c35 hq38
                refine lv_iconst (v := (0 : Int32)) hx hb dX4_read_164 (by decide) ?_
                obtain rfl := pj1 hq38
                exact J37 _ _ _ hP hD hS (lv_sub hl [0, 1, 2, 3, 4, 5, 6, 7] rfl)
              · have hq38 := ien c35 hq38
                refine lv_iconst (v := (1 : Int32)) hx hb dX4_read_160 (by decide) ?_
                refine lv_goto (tgt := 165) hx hb dX4_read_161 (by decide) ?_
                obtain rfl := pj1 hq38
                exact J37 _ _ _ hP hD hS (lv_sub hl [0, 1, 2, 3, 4, 5, 6, 7] rfl)
            generalize (fun (v7_32 : Int32) (v6_32 : Int32) (m0_32 : MS) => bd1 (f_X4_copies_aside_d m0_32) (fun m34 => jn1 (if v6_32 = 0 then ((0 : Int32)) else ((1 : Int32))) (fun x36 => lp_X4_read_51 p1 p2 k_13 (v5_13 + (1 : Int32)) (v4_13 + x36) m34))) = K at hf hX ⊢
            have L_19 : ∀ (k_19 : Nat) (v7_19 : Int32) (v6_19 : Int32) (m0_19 : MS), lp_X4_read_87 p1 p2 K k_19 v7_19 v6_19 m0_19 = some (r, m0') → ∀ (H : Heap) (locs : List Loc) (ls : Array Slot), va_P E.1 vwCl (wX4 E a m0_19) H → va_D A (wX4 E a m0_19) → va_S A s.heap H locs → lv_has ls 8 [(7, .int v7_19), (6, .int v6_19), (5, .int v5_13), (4, .int v4_13), (3, .int x4), (0, .ref (a 0)), (1, .int p1), (2, .int p2)] → W p l e (rmk 5 115) s m [.ref (a 0), .int p1, .int p2].toArray below meth c H locs 0 0 (MQ below (Qct E A (wX4 E a m0') (some (.int r))) [.ref (a 0), .int p1, .int p2].toArray s 0 0 A) (F0 m 87 ls []) := by
              intro k_19
              induction k_19 with
              | zero =>
                intro v7_19 v6_19 m0_19 hf
                rw [lp_X4_read_87] at hf
                cases hf
              | succ k_19 ih_19 =>
                intro v7_19 v6_19 m0_19 hf H locs ls hP hD hS hl
                rw [lp_X4_read_87] at hf
                refine lv_iload hx hb dX4_read_87 (lv_at hl 0 rfl) ?_
                refine lv_aload_n hx hb dX4_read_89 rfl (lv_at hl 5 rfl) ?_
                refine va_get (D := E.1) (ci := 4) (v := .ref (a 16)) (C := RX4) (T := TX4) (N := 18) hx hb hts inX4 hown hE.2.1 hP 0 rfl rfl 15 (by decide) (hE.w tw_613) (fun _ h9 => h9) rfl dX4_read_90 ?_
                refine lv_iload_n hx hb dX4_read_93 rfl (lv_at hl 6 rfl) ?_
                obtain ⟨hg20, hf⟩ := gd_some hf
                refine va_iald hx hb hE.2.1 hP 9 0 rfl rfl hg20 dX4_read_94 ?_
                refine lv_icmp_ge (tgt := 142) hx hb dX4_read_95 (by decide) (fun c21 => ?_) (fun c21 => ?_)
                · have hf := ip c21 hf
                  exact hX _ _ _ _ _ _ hf hP hD hS (lv_sub hl [0, 1, 2, 3, 4, 5, 6, 7] rfl)
                · have hf := im c21 hf
                  refine lv_iload hx hb dX4_read_98 (lv_at hl 1 rfl) ?_
                  refine lv_if_eq (tgt := 142) hx hb dX4_read_100 (by decide) (fun c22 => ?_) (fun c22 => ?_)
                  · have hf := ip c22 hf
                    exact hX _ _ _ _ _ _ hf hP hD hS (lv_sub hl [0, 1, 2, 3, 4, 5, 6, 7] rfl)
                  · have hf := im c22 hf
                    refine lv_aload_n hx hb dX4_read_103 rfl (lv_at hl 5 rfl) ?_
                    refine va_get (D := E.1) (ci := 4) (v := .ref (a 17)) (C := RX4) (T := TX4) (N := 18) hx hb hts inX4 hown hE.2.1 hP 0 rfl rfl 16 (by decide) (hE.w tw_614) (fun _ h9 => h9) rfl dX4_read_104 ?_
                    refine lv_bipush (v := (40 : Int32)) hx hb dX4_read_107 (by decide) ?_
                    refine lv_iload_n hx hb dX4_read_109 rfl (lv_at hl 6 rfl) ?_
                    refine lv_imul hx hb dX4_read_110 ?_
                    refine lv_iload hx hb dX4_read_111 (lv_at hl 0 rfl) ?_
                    refine lv_iadd hx hb dX4_read_113 ?_
                    obtain ⟨hg23, hf⟩ := gd_some hf
                    refine va_lald hx hb hE.2.1 hP 10 1 rfl rfl hg23 dX4_read_114 ?_
                    refine lv_aload_n hx hb dX4_read_115 rfl (lv_at hl 5 rfl) ?_
                    refine lv_iload_n hx hb dX4_read_116 rfl (lv_at hl 7 rfl) ?_
                    obtain ⟨r25, hc24, hf⟩ := bd1_some hf
                    refine cV (X := List.take 0 (wX4 E a m0_19)) (Y := List.drop 12 (wX4 E a m0_19)) (w := (wX4 E a m0_19)) (w' := (wX4 E a m0_19)) (q0 := 0) lk_X4_66 hx hb hml hown hE hA (c_X4_doesNow l E a m0_19 p2 r25 hc24) rfl rfl hP hD hS rfl rfl ⟨rfl, rfl, Nat.le_of_ble_eq_true rfl, Nat.le_of_ble_eq_true rfl⟩ hl.1 (As := [.int p2]) (rest := [.long ((g4_number m0_19) (((40 : Int32) * p1) + v7_19).toNatClampNeg)]) rfl rfl (Nat.le_of_ble_eq_true rfl) ⟨Nat.zero_le _, Nat.zero_le _⟩ dX4_read_117 (fun H locs hP hD hS => ?_)
                    refine W.eq (g2 := F0 m 120 ls [.int r25, .long ((g4_number m0_19) (((40 : Int32) * p1) + v7_19).toNatClampNeg)]) rfl ?_
                    refine lv_i2l (v := (r25.toInt64)) hx hb dX4_read_120 rfl ?_
                    refine W.lcmp hx hb dX4_read_121 ?_
                    obtain ⟨x27, hq29, hf⟩ := jn1_some hf
                    have J28 : ∀ (H : Heap) (locs : List Loc) (ls : Array Slot), va_P E.1 vwCl (wX4 E a m0_19) H → va_D A (wX4 E a m0_19) → va_S A s.heap H locs → lv_has ls 8 [(7, .int v7_19), (6, .int v6_19), (5, .int v5_13), (4, .int v4_13), (3, .int x4), (0, .ref (a 0)), (1, .int p1), (2, .int p2)] → W p l e (rmk 5 115) s m [.ref (a 0), .int p1, .int p2].toArray below meth c H locs 0 0 (MQ below (Qct E A (wX4 E a m0') (some (.int r))) [.ref (a 0), .int p1, .int p2].toArray s 0 0 A) (F0 m 130 ls [.int x27]) := by
                      intro H locs ls hP hD hS hl
                      refine lv_istore (lv' := [(6, .int x27), (7, .int v7_19), (5, .int v5_13), (4, .int v4_13), (3, .int x4), (0, .ref (a 0)), (1, .int p1), (2, .int p2)]) hx hb dX4_read_130 hl (by decide) rfl (fun ls hl => ?_)
                      refine lv_aload_n hx hb dX4_read_132 rfl (lv_at hl 5 rfl) ?_
                      obtain ⟨m31, hc30, hf⟩ := bd1_some hf
                      refine cV (X := List.take 0 (wX4 E a m0_19)) (Y := List.drop 12 (wX4 E a m0_19)) (w := (wX4 E a m0_19)) (w' := (wX4 E a m31)) (q0 := 0) lk_X4_80 hx hb hml hown hE hA (c_X4_momentGoes l E a m0_19 m31 hc30) rfl rfl hP hD hS rfl rfl ⟨rfl, rfl, Nat.le_of_ble_eq_true rfl, Nat.le_of_ble_eq_true rfl⟩ hl.1 (As := []) (rest := []) rfl rfl (Nat.le_of_ble_eq_true rfl) ⟨Nat.zero_le _, Nat.zero_le _⟩ dX4_read_133 (fun H locs hP hD hS => ?_)
                      refine W.eq (g2 := F0 m 136 ls []) rfl ?_
                      refine lv_iinc (v := (v7_19 + (1 : Int32))) (lv' := [(7, .int (v7_19 + (1 : Int32))), (6, .int x27), (5, .int v5_13), (4, .int v4_13), (3, .int x4), (0, .ref (a 0)), (1, .int p1), (2, .int p2)]) hx hb dX4_read_136 hl (k := 1) rfl rfl (by decide) rfl (fun ls hl => ?_)
                      refine lv_goto (tgt := 87) hx hb dX4_read_139 (by decide) ?_
                      exact ih_19 _ _ _ hf _ _ _ hP hD hS (lv_sub hl [0, 1, 2, 3, 4, 5, 6, 7] rfl)
                    refine lv_if_ne (tgt := 129) hx hb dX4_read_122 (by decide) (fun c26 => ?_) (fun c26 => ?_)
                    · have c26 := fun h => c26 ((lg_cmp_eq _ _).mpr h)
                      have hq29 := ien c26 hq29
                      refine lv_iconst (v := (0 : Int32)) hx hb dX4_read_129 (by decide) ?_
                      obtain rfl := pj1 hq29
                      exact J28 _ _ _ hP hD hS (lv_sub hl [0, 1, 2, 3, 4, 5, 6, 7] rfl)
                    · have c26 := (lg_cmp_eq _ _).mp c26
                      have hq29 := ie c26 hq29
                      refine lv_iconst (v := (1 : Int32)) hx hb dX4_read_125 (by decide) ?_
                      refine lv_goto (tgt := 130) hx hb dX4_read_126 (by decide) ?_
                      obtain rfl := pj1 hq29
                      exact J28 _ _ _ hP hD hS (lv_sub hl [0, 1, 2, 3, 4, 5, 6, 7] rfl)
            exact L_19 _ _ _ _ hf _ _ _ hP hD hS (lv_sub hl [0, 1, 2, 3, 4, 5, 6, 7] rfl)
      exact L_13 _ _ _ _ hf _ _ _ hP hD hS (lv_sub hl [0, 1, 2, 3, 4, 5] rfl)
    · have hf := im c10 hf
      refine lv_aload_n hx hb dX4_read_28 rfl (lv_at hl 1 rfl) ?_
      refine lv_iload_n hx hb dX4_read_29 rfl (lv_at hl 0 rfl) ?_
      obtain ⟨r40, m41, hc39, hf⟩ := bd2_some hf
      refine cV (X := List.take 0 (wX4 E a m0)) (Y := List.drop 12 (wX4 E a m0)) (w := (wX4 E a m0)) (w' := (wX4 E a m41)) (q0 := 0) lk_X4_92 hx hb hml hown hE hA (c_X4_finds l E a m0 x4 r40 m41 hc39) rfl rfl hP hD hS rfl rfl ⟨rfl, rfl, Nat.le_of_ble_eq_true rfl, Nat.le_of_ble_eq_true rfl⟩ hl.1 (As := [.int x4]) (rest := []) rfl rfl (Nat.le_of_ble_eq_true rfl) ⟨Nat.zero_le _, Nat.zero_le _⟩ dX4_read_30 (fun H locs hP hD hS => ?_)
      refine W.eq (g2 := F0 m 33 ls [.int r40]) rfl ?_
      obtain ⟨rfl, rfl⟩ := so2 hf
      exact rt_i hx hb hr hlocks hP hD hS dX4_read_33
  refine lv_if_ge (tgt := 22) hx hb dX4_read_7 (by decide) (fun c3 => ?_) (fun c3 => ?_)
  · have hq6 := ip c3 hq6
    refine lv_iload_n hx hb dX4_read_22 rfl (lv_at hl 0 rfl) ?_
    obtain rfl := so1 hq6
    exact J5 _ _ _ hP hD hS (lv_sub hl [0, 1, 2, 3] rfl)
  · have hq6 := im c3 hq6
    refine lv_aload_n hx hb dX4_read_10 rfl (lv_at hl 1 rfl) ?_
    refine lv_iload_n hx hb dX4_read_11 rfl (lv_at hl 3 rfl) ?_
    obtain ⟨r8, hc7, hq6⟩ := bd1_some hq6
    refine cV (X := List.take 0 (wX4 E a m0)) (Y := List.drop 12 (wX4 E a m0)) (w := (wX4 E a m0)) (w' := (wX4 E a m0)) (q0 := 0) lk_X4_50 hx hb hml hown hE hA (c_X4_isPerson l E a m0 p2 r8 hc7) rfl rfl hP hD hS rfl rfl ⟨rfl, rfl, Nat.le_of_ble_eq_true rfl, Nat.le_of_ble_eq_true rfl⟩ hl.1 (As := [.int p2]) (rest := []) rfl rfl (Nat.le_of_ble_eq_true rfl) ⟨Nat.zero_le _, Nat.zero_le _⟩ dX4_read_12 (fun H locs hP hD hS => ?_)
    refine W.eq (g2 := F0 m 15 ls [.int (bI r8)]) rfl ?_
    refine lv_if_ne (tgt := 22) hx hb dX4_read_15 (by decide) (fun c9 => ?_) (fun c9 => ?_)
    · have hq6 := im c9 hq6
      refine lv_iload_n hx hb dX4_read_22 rfl (lv_at hl 0 rfl) ?_
      obtain rfl := so1 hq6
      exact J5 _ _ _ hP hD hS (lv_sub hl [0, 1, 2, 3] rfl)
    · have hq6 := ip c9 hq6
      refine lv_iconst (v := (0 : Int32)) hx hb dX4_read_18 (by decide) ?_
      refine lv_goto (tgt := 23) hx hb dX4_read_19 (by decide) ?_
      obtain rfl := so1 hq6
      exact J5 _ _ _ hP hD hS (lv_sub hl [0, 1, 2, 3] rfl)
def f_X4_image (m0 : MS) : Option (Int32 × MS) := bd1 (f_X4_copies_d_kept m0) (fun m2 => jn1 (s4_isKept m2 (1 : Int32)) (fun m_3 => some ((1 : Int32), m_3)))
set_option maxHeartbeats 4000000 in
set_option maxRecDepth 100000 in
theorem c_X4_image (l : Launch) (E : EV) (a : Nat → Nat) (m0 : MS)  (r : Int32) (m0' : MS) (hf : f_X4_image m0 = some (r, m0')) : Ct l E yX4_image cX4_image 1 ((Option.some FieldType.int)) (rmk 1 22) [.ref (a 0)] (wX4 E a m0) (wX4 E a m0') (some (.int r)) := by
  refine Ct.of (by decide) (Nat.le_of_ble_eq_true rfl) ?_
  intro p e s m below meth c A ls hC hP hD hl
  obtain ⟨hx, hb, hr, hml, hown, hlocks, hE, hA⟩ := hC
  have hts : ∀ w ∈ tbl, w.before [.ref (a 0)].toArray s = true := fun w hw => hE.w hw
  have hS : va_S A s.heap s.heap [] := va_S.rf
  have hl : lv_has ls 1 [(0, .ref (a 0))] := hl
  unfold f_X4_image at hf
  refine lv_aload_n hx hb dX4_image_0 rfl (lv_at hl 0 rfl) ?_
  refine va_get (D := E.1) (ci := 4) (v := .ref (a 1)) (C := RX4) (T := TX4) (N := 18) hx hb hts inX4 hown hE.2.1 hP 0 rfl rfl 0 (by decide) (hE.w tw_598) (fun _ h9 => h9) rfl dX4_image_1 ?_
  refine lv_aload_n hx hb dX4_image_4 rfl (lv_at hl 0 rfl) ?_
  refine va_get (D := E.1) (ci := 4) (v := .ref (a 4)) (C := RX4) (T := TX4) (N := 18) hx hb hts inX4 hown hE.2.1 hP 0 rfl rfl 3 (by decide) (hE.w tw_601) (fun _ h9 => h9) rfl dX4_image_5 ?_
  obtain ⟨m2, hc1, hf⟩ := bd1_some hf
  refine cS (X := List.take 0 (wX4 E a m0)) (Y := List.drop 12 (wX4 E a m0)) (w := (wX4 E a m0)) (w' := (wX4 E a m2)) lk_X4_129 hx hb hml hown hE hA (c_X4_copies_d_kept l E a m0 m2 hc1) rfl rfl hP hD hS ⟨rfl, rfl, Nat.le_of_ble_eq_true rfl, Nat.le_of_ble_eq_true rfl⟩ hl.1 (As := [.ref (a 1), .ref (a 4)]) (rest := []) rfl rfl (Nat.le_of_ble_eq_true rfl) ⟨Nat.zero_le _, Nat.zero_le _⟩ dX4_image_8 (fun H locs hP hD hS => ?_)
  refine W.eq (g2 := F0 m 11 ls []) rfl ?_
  refine lv_aload_n hx hb dX4_image_11 rfl (lv_at hl 0 rfl) ?_
  refine lv_iconst (v := (1 : Int32)) hx hb dX4_image_12 (by decide) ?_
  obtain ⟨m_3, em_3, hf⟩ := jn1_some hf
  refine va_put (D := E.1) (ci := 4) (v := .int (1 : Int32)) (ty := .boolean) (C := RX4) (T := TX4) (N := 18) hx hb hts inX4 tyX4 tyX4_ok nmX4 hown hE.2.1 hP hD hS 0 rfl rfl 4 (by decide) (hE.w tw_602) (fun _ h9 => h9) rfl (by decide +kernel) (by decide) (by decide) (Nat.le_of_ble_eq_true rfl) dX4_image_13 (fun H locs hP hD hS => ?_)
  have hP : va_P E.1 vwCl (wX4 E a m_3) H := wst (by rw [em_3]; exact rfl) hP
  have hD : va_D A (wX4 E a m_3) := wsd (by rw [em_3]; exact rfl) hD
  refine lv_iconst (v := (1 : Int32)) hx hb dX4_image_16 (by decide) ?_
  obtain ⟨rfl, rfl⟩ := so2 hf
  exact rt_i hx hb hr hlocks hP hD hS dX4_image_17
def f_X4_undo (m0 : MS) : Option (Int32 × MS) := if (g4_isKept m0) = 0 then bd2 (f_X4_finds m0 (3 : Int32)) (fun r6 m7 => some (r6, m7)) else bd1 (f_X4_copies_kept_d m0) (fun m3 => gd (0 : Int32) 67 (some (((g4_d m3) (0 : Int32).toNatClampNeg), m3)))
set_option maxHeartbeats 4000000 in
set_option maxRecDepth 100000 in
theorem c_X4_undo (l : Launch) (E : EV) (a : Nat → Nat) (m0 : MS)  (r : Int32) (m0' : MS) (hf : f_X4_undo m0 = some (r, m0')) : Ct l E yX4_undo cX4_undo 1 ((Option.some FieldType.int)) (rmk 1 22) [.ref (a 0)] (wX4 E a m0) (wX4 E a m0') (some (.int r)) := by
  refine Ct.of (by decide) (Nat.le_of_ble_eq_true rfl) ?_
  intro p e s m below meth c A ls hC hP hD hl
  obtain ⟨hx, hb, hr, hml, hown, hlocks, hE, hA⟩ := hC
  have hts : ∀ w ∈ tbl, w.before [.ref (a 0)].toArray s = true := fun w hw => hE.w hw
  have hS : va_S A s.heap s.heap [] := va_S.rf
  have hl : lv_has ls 1 [(0, .ref (a 0))] := hl
  unfold f_X4_undo at hf
  refine lv_aload_n hx hb dX4_undo_0 rfl (lv_at hl 0 rfl) ?_
  refine va_get (D := E.1) (ci := 4) (v := .int (g4_isKept m0)) (C := RX4) (T := TX4) (N := 18) hx hb hts inX4 hown hE.2.1 hP 0 rfl rfl 4 (by decide) (hE.w tw_602) (fun _ h9 => h9) rfl dX4_undo_1 ?_
  refine lv_if_ne (tgt := 13) hx hb dX4_undo_4 (by decide) (fun c1 => ?_) (fun c1 => ?_)
  · have hf := im c1 hf
    refine lv_aload_n hx hb dX4_undo_13 rfl (lv_at hl 0 rfl) ?_
    refine va_get (D := E.1) (ci := 4) (v := .ref (a 4)) (C := RX4) (T := TX4) (N := 18) hx hb hts inX4 hown hE.2.1 hP 0 rfl rfl 3 (by decide) (hE.w tw_601) (fun _ h9 => h9) rfl dX4_undo_14 ?_
    refine lv_aload_n hx hb dX4_undo_17 rfl (lv_at hl 0 rfl) ?_
    refine va_get (D := E.1) (ci := 4) (v := .ref (a 1)) (C := RX4) (T := TX4) (N := 18) hx hb hts inX4 hown hE.2.1 hP 0 rfl rfl 0 (by decide) (hE.w tw_598) (fun _ h9 => h9) rfl dX4_undo_18 ?_
    obtain ⟨m3, hc2, hf⟩ := bd1_some hf
    refine cS (X := List.take 0 (wX4 E a m0)) (Y := List.drop 12 (wX4 E a m0)) (w := (wX4 E a m0)) (w' := (wX4 E a m3)) lk_X4_129 hx hb hml hown hE hA (c_X4_copies_kept_d l E a m0 m3 hc2) rfl rfl hP hD hS ⟨rfl, rfl, Nat.le_of_ble_eq_true rfl, Nat.le_of_ble_eq_true rfl⟩ hl.1 (As := [.ref (a 4), .ref (a 1)]) (rest := []) rfl rfl (Nat.le_of_ble_eq_true rfl) ⟨Nat.zero_le _, Nat.zero_le _⟩ dX4_undo_21 (fun H locs hP hD hS => ?_)
    refine W.eq (g2 := F0 m 24 ls []) rfl ?_
    refine lv_aload_n hx hb dX4_undo_24 rfl (lv_at hl 0 rfl) ?_
    refine va_get (D := E.1) (ci := 4) (v := .ref (a 1)) (C := RX4) (T := TX4) (N := 18) hx hb hts inX4 hown hE.2.1 hP 0 rfl rfl 0 (by decide) (hE.w tw_598) (fun _ h9 => h9) rfl dX4_undo_25 ?_
    refine lv_iconst (v := (0 : Int32)) hx hb dX4_undo_28 (by decide) ?_
    obtain ⟨hg4, hf⟩ := gd_some hf
    refine va_iald hx hb hE.2.1 hP 1 0 rfl rfl hg4 dX4_undo_29 ?_
    obtain ⟨rfl, rfl⟩ := so2 hf
    exact rt_i hx hb hr hlocks hP hD hS dX4_undo_30
  · have hf := ip c1 hf
    refine lv_aload_n hx hb dX4_undo_7 rfl (lv_at hl 0 rfl) ?_
    refine lv_iconst (v := (3 : Int32)) hx hb dX4_undo_8 (by decide) ?_
    obtain ⟨r6, m7, hc5, hf⟩ := bd2_some hf
    refine cV (X := List.take 0 (wX4 E a m0)) (Y := List.drop 12 (wX4 E a m0)) (w := (wX4 E a m0)) (w' := (wX4 E a m7)) (q0 := 0) lk_X4_92 hx hb hml hown hE hA (c_X4_finds l E a m0 (3 : Int32) r6 m7 hc5) rfl rfl hP hD hS rfl rfl ⟨rfl, rfl, Nat.le_of_ble_eq_true rfl, Nat.le_of_ble_eq_true rfl⟩ hl.1 (As := [.int (3 : Int32)]) (rest := []) rfl rfl (Nat.le_of_ble_eq_true rfl) ⟨Nat.zero_le _, Nat.zero_le _⟩ dX4_undo_9 (fun H locs hP hD hS => ?_)
    refine W.eq (g2 := F0 m 12 ls [.int r6]) rfl ?_
    obtain ⟨rfl, rfl⟩ := so2 hf
    exact rt_i hx hb hr hlocks hP hD hS dX4_undo_12
def f_X4_tear (m0 : MS) : Option (Int32 × MS) := jn1 (if (g4_isKept m0) = 0 then ((0 : Int32)) else ((1 : Int32))) (fun x2 => jn1 (s4_isKept m0 (0 : Int32)) (fun m_5 => some (x2, m_5)))
set_option maxHeartbeats 4000000 in
set_option maxRecDepth 100000 in
theorem c_X4_tear (l : Launch) (E : EV) (a : Nat → Nat) (m0 : MS)  (r : Int32) (m0' : MS) (hf : f_X4_tear m0 = some (r, m0')) : Ct l E yX4_tear cX4_tear 2 ((Option.some FieldType.int)) (rmk 0 0) [.ref (a 0)] (wX4 E a m0) (wX4 E a m0') (some (.int r)) := by
  refine Ct.of (by decide) (Nat.le_of_ble_eq_true rfl) ?_
  intro p e s m below meth c A ls hC hP hD hl
  obtain ⟨hx, hb, hr, hml, hown, hlocks, hE, hA⟩ := hC
  have hts : ∀ w ∈ tbl, w.before [.ref (a 0)].toArray s = true := fun w hw => hE.w hw
  have hS : va_S A s.heap s.heap [] := va_S.rf
  have hl : lv_has ls 2 [(0, .ref (a 0))] := hl
  unfold f_X4_tear at hf
  refine lv_aload_n hx hb dX4_tear_0 rfl (lv_at hl 0 rfl) ?_
  refine va_get (D := E.1) (ci := 4) (v := .int (g4_isKept m0)) (C := RX4) (T := TX4) (N := 18) hx hb hts inX4 hown hE.2.1 hP 0 rfl rfl 4 (by decide) (hE.w tw_602) (fun _ h9 => h9) rfl dX4_tear_1 ?_
  obtain ⟨x2, hq4, hf⟩ := jn1_some hf
  have J3 : ∀ (H : Heap) (locs : List Loc) (ls : Array Slot), va_P E.1 vwCl (wX4 E a m0) H → va_D A (wX4 E a m0) → va_S A s.heap H locs → lv_has ls 2 [(0, .ref (a 0))] → W p l e (rmk 0 0) s m [.ref (a 0)].toArray below meth c H locs 0 0 (MQ below (Qct E A (wX4 E a m0') (some (.int r))) [.ref (a 0)].toArray s 0 0 A) (F0 m 12 ls [.int x2]) := by
    intro H locs ls hP hD hS hl
    refine lv_istore_n (lv' := [(1, .int x2), (0, .ref (a 0))]) hx hb dX4_tear_12 rfl hl (by decide) rfl (fun ls hl => ?_)
    refine lv_aload_n hx hb dX4_tear_13 rfl (lv_at hl 1 rfl) ?_
    refine lv_iconst (v := (0 : Int32)) hx hb dX4_tear_14 (by decide) ?_
    obtain ⟨m_5, em_5, hf⟩ := jn1_some hf
    refine va_put (D := E.1) (ci := 4) (v := .int (0 : Int32)) (ty := .boolean) (C := RX4) (T := TX4) (N := 18) hx hb hts inX4 tyX4 tyX4_ok nmX4 hown hE.2.1 hP hD hS 0 rfl rfl 4 (by decide) (hE.w tw_602) (fun _ h9 => h9) rfl (by decide +kernel) (by decide) (by decide) (Nat.le_of_ble_eq_true rfl) dX4_tear_15 (fun H locs hP hD hS => ?_)
    have hP : va_P E.1 vwCl (wX4 E a m_5) H := wst (by rw [em_5]; exact rfl) hP
    have hD : va_D A (wX4 E a m_5) := wsd (by rw [em_5]; exact rfl) hD
    refine lv_iload_n hx hb dX4_tear_18 rfl (lv_at hl 0 rfl) ?_
    obtain ⟨rfl, rfl⟩ := so2 hf
    exact rt_i hx hb hr hlocks hP hD hS dX4_tear_19
  refine lv_if_eq (tgt := 11) hx hb dX4_tear_4 (by decide) (fun c1 => ?_) (fun c1 => ?_)
  · have hq4 := ie c1 hq4
    refine lv_iconst (v := (0 : Int32)) hx hb dX4_tear_11 (by decide) ?_
    obtain rfl := pj1 hq4
    exact J3 _ _ _ hP hD hS (lv_sub hl [0] rfl)
  · have hq4 := ien c1 hq4
    refine lv_iconst (v := (1 : Int32)) hx hb dX4_tear_7 (by decide) ?_
    refine lv_goto (tgt := 12) hx hb dX4_tear_8 (by decide) ?_
    obtain rfl := pj1 hq4
    exact J3 _ _ _ hP hD hS (lv_sub hl [0] rfl)
def lp_X4_count_4 (m0 : MS) (p1 : Int32) : Nat → (Int32) → (Int32) → Option (Int32 × MS)
  | 0, _, _ => none
  | k_1 + 1, v3_1, v2_1 => if (16 : Int32) ≤ v3_1 then if p1 = (0 : Int32) then gd (0 : Int32) 67 (some (((g4_d m0) (0 : Int32).toNatClampNeg), m0)) else if p1 = (1 : Int32) then some ((g4_taped m0), m0) else if p1 = (2 : Int32) then some (v2_1, m0) else if p1 = (3 : Int32) then bd1 (f_X4_sumOf m0 (1 : Int32)) (fun r9 => some (r9, m0)) else bd2 (f_X4_finds m0 (0 : Int32)) (fun r11 m12 => some (r11, m12)) else gd ((19 : Int32) + v3_1) 67 (lp_X4_count_4 m0 p1 k_1 (v3_1 + (1 : Int32)) (v2_1 + ((g4_d m0) ((19 : Int32) + v3_1).toNatClampNeg)))
def f_X4_count (m0 : MS) (p1 : Int32) : Option (Int32 × MS) := lp_X4_count_4 m0 p1 FU (0 : Int32) (0 : Int32)
set_option maxHeartbeats 4000000 in
set_option maxRecDepth 100000 in
theorem c_X4_count (l : Launch) (E : EV) (a : Nat → Nat) (m0 : MS) (p1 : Int32)  (r : Int32) (m0' : MS) (hf : f_X4_count m0 p1 = some (r, m0')) : Ct l E yX4_count cX4_count 4 ((Option.some FieldType.int)) (rmk 2 45) [.ref (a 0), .int p1] (wX4 E a m0) (wX4 E a m0') (some (.int r)) := by
  refine Ct.of (by decide) (Nat.le_of_ble_eq_true rfl) ?_
  intro p e s m below meth c A ls hC hP hD hl
  obtain ⟨hx, hb, hr, hml, hown, hlocks, hE, hA⟩ := hC
  have hts : ∀ w ∈ tbl, w.before [.ref (a 0), .int p1].toArray s = true := fun w hw => hE.w hw
  have hS : va_S A s.heap s.heap [] := va_S.rf
  have hl : lv_has ls 4 [(0, .ref (a 0)), (1, .int p1)] := hl
  unfold f_X4_count at hf
  refine lv_iconst (v := (0 : Int32)) hx hb dX4_count_0 (by decide) ?_
  refine lv_istore_n (lv' := [(2, .int (0 : Int32)), (0, .ref (a 0)), (1, .int p1)]) hx hb dX4_count_1 rfl hl (by decide) rfl (fun ls hl => ?_)
  refine lv_iconst (v := (0 : Int32)) hx hb dX4_count_2 (by decide) ?_
  refine lv_istore_n (lv' := [(3, .int (0 : Int32)), (2, .int (0 : Int32)), (0, .ref (a 0)), (1, .int p1)]) hx hb dX4_count_3 rfl hl (by decide) rfl (fun ls hl => ?_)
  have L_1 : ∀ (k_1 : Nat) (v3_1 : Int32) (v2_1 : Int32), lp_X4_count_4 m0 p1 k_1 v3_1 v2_1 = some (r, m0') → ∀ (H : Heap) (locs : List Loc) (ls : Array Slot), va_P E.1 vwCl (wX4 E a m0) H → va_D A (wX4 E a m0) → va_S A s.heap H locs → lv_has ls 4 [(3, .int v3_1), (2, .int v2_1), (0, .ref (a 0)), (1, .int p1)] → W p l e (rmk 2 45) s m [.ref (a 0), .int p1].toArray below meth c H locs 0 0 (MQ below (Qct E A (wX4 E a m0') (some (.int r))) [.ref (a 0), .int p1].toArray s 0 0 A) (F0 m 4 ls []) := by
    intro k_1
    induction k_1 with
    | zero =>
      intro v3_1 v2_1 hf
      rw [lp_X4_count_4] at hf
      cases hf
    | succ k_1 ih_1 =>
      intro v3_1 v2_1 hf H locs ls hP hD hS hl
      rw [lp_X4_count_4] at hf
      refine lv_iload_n hx hb dX4_count_4 rfl (lv_at hl 0 rfl) ?_
      refine lv_bipush (v := (16 : Int32)) hx hb dX4_count_5 (by decide) ?_
      refine lv_icmp_ge (tgt := 28) hx hb dX4_count_7 (by decide) (fun c2 => ?_) (fun c2 => ?_)
      · have hf := ip c2 hf
        refine lv_iload_n hx hb dX4_count_28 rfl (lv_at hl 3 rfl) ?_
        by_cases c3 : p1 = (0 : Int32)
        · have hf := ip c3 hf
          refine lv_tableIn (off := 31) (tgt := 60) hx hb dX4_count_29 (by rw [c3]; decide) (by rw [c3]; decide) (by rw [c3]; rfl) (by decide) ?_
          refine lv_aload_n hx hb dX4_count_60 rfl (lv_at hl 2 rfl) ?_
          refine va_get (D := E.1) (ci := 4) (v := .ref (a 1)) (C := RX4) (T := TX4) (N := 18) hx hb hts inX4 hown hE.2.1 hP 0 rfl rfl 0 (by decide) (hE.w tw_598) (fun _ h9 => h9) rfl dX4_count_61 ?_
          refine lv_iconst (v := (0 : Int32)) hx hb dX4_count_64 (by decide) ?_
          obtain ⟨hg4, hf⟩ := gd_some hf
          refine va_iald hx hb hE.2.1 hP 1 0 rfl rfl hg4 dX4_count_65 ?_
          obtain ⟨rfl, rfl⟩ := so2 hf
          exact rt_i hx hb hr hlocks hP hD hS dX4_count_66
        have hf := im c3 hf
        by_cases c5 : p1 = (1 : Int32)
        · have hf := ip c5 hf
          refine lv_tableIn (off := 38) (tgt := 67) hx hb dX4_count_29 (by rw [c5]; decide) (by rw [c5]; decide) (by rw [c5]; rfl) (by decide) ?_
          refine lv_aload_n hx hb dX4_count_67 rfl (lv_at hl 2 rfl) ?_
          refine va_get (D := E.1) (ci := 4) (v := .int (g4_taped m0)) (C := RX4) (T := TX4) (N := 18) hx hb hts inX4 hown hE.2.1 hP 0 rfl rfl 7 (by decide) (hE.w tw_605) (fun _ h9 => h9) rfl dX4_count_68 ?_
          obtain ⟨rfl, rfl⟩ := so2 hf
          exact rt_i hx hb hr hlocks hP hD hS dX4_count_71
        have hf := im c5 hf
        by_cases c6 : p1 = (2 : Int32)
        · have hf := ip c6 hf
          refine lv_tableIn (off := 43) (tgt := 72) hx hb dX4_count_29 (by rw [c6]; decide) (by rw [c6]; decide) (by rw [c6]; rfl) (by decide) ?_
          refine lv_iload_n hx hb dX4_count_72 rfl (lv_at hl 1 rfl) ?_
          obtain ⟨rfl, rfl⟩ := so2 hf
          exact rt_i hx hb hr hlocks hP hD hS dX4_count_73
        have hf := im c6 hf
        by_cases c7 : p1 = (3 : Int32)
        · have hf := ip c7 hf
          refine lv_tableIn (off := 45) (tgt := 74) hx hb dX4_count_29 (by rw [c7]; decide) (by rw [c7]; decide) (by rw [c7]; rfl) (by decide) ?_
          refine lv_aload_n hx hb dX4_count_74 rfl (lv_at hl 2 rfl) ?_
          refine lv_iconst (v := (1 : Int32)) hx hb dX4_count_75 (by decide) ?_
          obtain ⟨r9, hc8, hf⟩ := bd1_some hf
          refine cV (X := List.take 0 (wX4 E a m0)) (Y := List.drop 12 (wX4 E a m0)) (w := (wX4 E a m0)) (w' := (wX4 E a m0)) (q0 := 0) lk_X4_98 hx hb hml hown hE hA (c_X4_sumOf l E a m0 (1 : Int32) r9 hc8) rfl rfl hP hD hS rfl rfl ⟨rfl, rfl, Nat.le_of_ble_eq_true rfl, Nat.le_of_ble_eq_true rfl⟩ hl.1 (As := [.int (1 : Int32)]) (rest := []) rfl rfl (Nat.le_of_ble_eq_true rfl) ⟨Nat.zero_le _, Nat.zero_le _⟩ dX4_count_76 (fun H locs hP hD hS => ?_)
          refine W.eq (g2 := F0 m 79 ls [.int r9]) rfl ?_
          obtain ⟨rfl, rfl⟩ := so2 hf
          exact rt_i hx hb hr hlocks hP hD hS dX4_count_79
        have hf := im c7 hf
        refine lv_tableOut (tgt := 80) hx hb dX4_count_29 (by have zc3 := lv_neT c3 (a := 0) (by decide); have zc5 := lv_neT c5 (a := 1) (by decide); have zc6 := lv_neT c6 (a := 2) (by decide); have zc7 := lv_neT c7 (a := 3) (by decide); omega) (by decide) ?_
        refine lv_aload_n hx hb dX4_count_80 rfl (lv_at hl 2 rfl) ?_
        refine lv_iconst (v := (0 : Int32)) hx hb dX4_count_81 (by decide) ?_
        obtain ⟨r11, m12, hc10, hf⟩ := bd2_some hf
        refine cV (X := List.take 0 (wX4 E a m0)) (Y := List.drop 12 (wX4 E a m0)) (w := (wX4 E a m0)) (w' := (wX4 E a m12)) (q0 := 0) lk_X4_92 hx hb hml hown hE hA (c_X4_finds l E a m0 (0 : Int32) r11 m12 hc10) rfl rfl hP hD hS rfl rfl ⟨rfl, rfl, Nat.le_of_ble_eq_true rfl, Nat.le_of_ble_eq_true rfl⟩ hl.1 (As := [.int (0 : Int32)]) (rest := []) rfl rfl (Nat.le_of_ble_eq_true rfl) ⟨Nat.zero_le _, Nat.zero_le _⟩ dX4_count_82 (fun H locs hP hD hS => ?_)
        refine W.eq (g2 := F0 m 85 ls [.int r11]) rfl ?_
        obtain ⟨rfl, rfl⟩ := so2 hf
        exact rt_i hx hb hr hlocks hP hD hS dX4_count_85
      · have hf := im c2 hf
        refine lv_iload_n hx hb dX4_count_10 rfl (lv_at hl 1 rfl) ?_
        refine lv_aload_n hx hb dX4_count_11 rfl (lv_at hl 2 rfl) ?_
        refine va_get (D := E.1) (ci := 4) (v := .ref (a 1)) (C := RX4) (T := TX4) (N := 18) hx hb hts inX4 hown hE.2.1 hP 0 rfl rfl 0 (by decide) (hE.w tw_598) (fun _ h9 => h9) rfl dX4_count_12 ?_
        refine lv_bipush (v := (19 : Int32)) hx hb dX4_count_15 (by decide) ?_
        refine lv_iload_n hx hb dX4_count_17 rfl (lv_at hl 0 rfl) ?_
        refine lv_iadd hx hb dX4_count_18 ?_
        obtain ⟨hg13, hf⟩ := gd_some hf
        refine va_iald hx hb hE.2.1 hP 1 0 rfl rfl hg13 dX4_count_19 ?_
        refine lv_iadd hx hb dX4_count_20 ?_
        refine lv_istore_n (lv' := [(2, .int (v2_1 + ((g4_d m0) ((19 : Int32) + v3_1).toNatClampNeg))), (3, .int v3_1), (0, .ref (a 0)), (1, .int p1)]) hx hb dX4_count_21 rfl hl (by decide) rfl (fun ls hl => ?_)
        refine lv_iinc (v := (v3_1 + (1 : Int32))) (lv' := [(3, .int (v3_1 + (1 : Int32))), (2, .int (v2_1 + ((g4_d m0) ((19 : Int32) + v3_1).toNatClampNeg))), (0, .ref (a 0)), (1, .int p1)]) hx hb dX4_count_22 hl (k := 1) rfl rfl (by decide) rfl (fun ls hl => ?_)
        refine lv_goto (tgt := 4) hx hb dX4_count_25 (by decide) ?_
        exact ih_1 _ _ hf _ _ _ hP hD hS (lv_sub hl [0, 1, 2, 3] rfl)
  exact L_1 _ _ _ hf _ _ _ hP hD hS (lv_sub hl [0, 1, 2, 3] rfl)
def lp_X4_status_24 (m0 : MS) (p1 : Int32) : Nat → (Int32) → (Int32) → Option (Int32 × MS)
  | 0, _, _ => none
  | k_4 + 1, v3_4, v2_4 => if (7 : Int32) ≤ v3_4 then if 0 ≤ p1 then gd p1 7 (some (((g4_found m0) p1.toNatClampNeg), m0)) else some (v2_4, m0) else gd v3_4 7 (lp_X4_status_24 m0 p1 k_4 (v3_4 + (1 : Int32)) (v2_4 + ((g4_found m0) v3_4.toNatClampNeg)))
def f_X4_status (m0 : MS) (p1 : Int32) : Option (Int32 × MS) := bd1 (f_X4_in (p1.toInt64) (-1 : Int64) (6 : Int64)) (fun r2 => if (bI r2) = 0 then bd2 (f_X4_finds m0 (0 : Int32)) (fun r10 m11 => some (r10, m11)) else lp_X4_status_24 m0 p1 FU (0 : Int32) (0 : Int32))
set_option maxHeartbeats 4000000 in
set_option maxRecDepth 100000 in
theorem c_X4_status (l : Launch) (E : EV) (a : Nat → Nat) (m0 : MS) (p1 : Int32)  (r : Int32) (m0' : MS) (hf : f_X4_status m0 p1 = some (r, m0')) : Ct l E yX4_status cX4_status 4 ((Option.some FieldType.int)) (rmk 1 25) [.ref (a 0), .int p1] (wX4 E a m0) (wX4 E a m0') (some (.int r)) := by
  refine Ct.of (by decide) (Nat.le_of_ble_eq_true rfl) ?_
  intro p e s m below meth c A ls hC hP hD hl
  obtain ⟨hx, hb, hr, hml, hown, hlocks, hE, hA⟩ := hC
  have hts : ∀ w ∈ tbl, w.before [.ref (a 0), .int p1].toArray s = true := fun w hw => hE.w hw
  have hS : va_S A s.heap s.heap [] := va_S.rf
  have hl : lv_has ls 4 [(0, .ref (a 0)), (1, .int p1)] := hl
  unfold f_X4_status at hf
  refine lv_iload_n hx hb dX4_status_0 rfl (lv_at hl 1 rfl) ?_
  refine lv_i2l (v := (p1.toInt64)) hx hb dX4_status_1 rfl ?_
  refine lv_ldc2 (v := (-1 : Int64)) hx hb hown (hE.w tw_998) dX4_status_2 ?_
  refine lv_ldc2 (v := (6 : Int64)) hx hb hown (hE.w tw_999) dX4_status_5 ?_
  obtain ⟨r2, hc1, hf⟩ := bd1_some hf
  refine cS (X := List.take 0 (wX4 E a m0)) (Y := List.drop 0 (wX4 E a m0)) (w := (wX4 E a m0)) (w' := (wX4 E a m0)) lk_X4_46 hx hb hml hown hE hA (c_X4_in l E (p1.toInt64) (-1 : Int64) (6 : Int64) r2 hc1) rfl rfl hP hD hS ⟨rfl, rfl, Nat.le_of_ble_eq_true rfl, Nat.le_of_ble_eq_true rfl⟩ hl.1 (As := [.long (p1.toInt64), .long (-1 : Int64), .long (6 : Int64)]) (rest := []) rfl rfl (Nat.le_of_ble_eq_true rfl) ⟨Nat.zero_le _, Nat.zero_le _⟩ dX4_status_8 (fun H locs hP hD hS => ?_)
  refine W.eq (g2 := F0 m 11 ls [.int (bI r2)]) rfl ?_
  refine lv_if_ne (tgt := 20) hx hb dX4_status_11 (by decide) (fun c3 => ?_) (fun c3 => ?_)
  · have hf := im c3 hf
    refine lv_iconst (v := (0 : Int32)) hx hb dX4_status_20 (by decide) ?_
    refine lv_istore_n (lv' := [(2, .int (0 : Int32)), (0, .ref (a 0)), (1, .int p1)]) hx hb dX4_status_21 rfl hl (by decide) rfl (fun ls hl => ?_)
    refine lv_iconst (v := (0 : Int32)) hx hb dX4_status_22 (by decide) ?_
    refine lv_istore_n (lv' := [(3, .int (0 : Int32)), (2, .int (0 : Int32)), (0, .ref (a 0)), (1, .int p1)]) hx hb dX4_status_23 rfl hl (by decide) rfl (fun ls hl => ?_)
    have L_4 : ∀ (k_4 : Nat) (v3_4 : Int32) (v2_4 : Int32), lp_X4_status_24 m0 p1 k_4 v3_4 v2_4 = some (r, m0') → ∀ (H : Heap) (locs : List Loc) (ls : Array Slot), va_P E.1 vwCl (wX4 E a m0) H → va_D A (wX4 E a m0) → va_S A s.heap H locs → lv_has ls 4 [(3, .int v3_4), (2, .int v2_4), (0, .ref (a 0)), (1, .int p1)] → W p l e (rmk 1 25) s m [.ref (a 0), .int p1].toArray below meth c H locs 0 0 (MQ below (Qct E A (wX4 E a m0') (some (.int r))) [.ref (a 0), .int p1].toArray s 0 0 A) (F0 m 24 ls []) := by
      intro k_4
      induction k_4 with
      | zero =>
        intro v3_4 v2_4 hf
        rw [lp_X4_status_24] at hf
        cases hf
      | succ k_4 ih_4 =>
        intro v3_4 v2_4 hf H locs ls hP hD hS hl
        rw [lp_X4_status_24] at hf
        refine lv_iload_n hx hb dX4_status_24 rfl (lv_at hl 0 rfl) ?_
        refine lv_bipush (v := (7 : Int32)) hx hb dX4_status_25 (by decide) ?_
        refine lv_icmp_ge (tgt := 45) hx hb dX4_status_27 (by decide) (fun c5 => ?_) (fun c5 => ?_)
        · have hf := ip c5 hf
          refine lv_iload_n hx hb dX4_status_45 rfl (lv_at hl 3 rfl) ?_
          refine lv_if_ge (tgt := 53) hx hb dX4_status_46 (by decide) (fun c6 => ?_) (fun c6 => ?_)
          · have hf := ip c6 hf
            refine lv_aload_n hx hb dX4_status_53 rfl (lv_at hl 2 rfl) ?_
            refine va_get (D := E.1) (ci := 4) (v := .ref (a 6)) (C := RX4) (T := TX4) (N := 18) hx hb hts inX4 hown hE.2.1 hP 0 rfl rfl 5 (by decide) (hE.w tw_603) (fun _ h9 => h9) rfl dX4_status_54 ?_
            refine lv_iload_n hx hb dX4_status_57 rfl (lv_at hl 3 rfl) ?_
            obtain ⟨hg7, hf⟩ := gd_some hf
            refine va_iald hx hb hE.2.1 hP 5 0 rfl rfl hg7 dX4_status_58 ?_
            obtain ⟨rfl, rfl⟩ := so2 hf
            exact rt_i hx hb hr hlocks hP hD hS dX4_status_59
          · have hf := im c6 hf
            refine lv_iload_n hx hb dX4_status_49 rfl (lv_at hl 1 rfl) ?_
            refine lv_goto (tgt := 59) hx hb dX4_status_50 (by decide) ?_
            obtain ⟨rfl, rfl⟩ := so2 hf
            exact rt_i hx hb hr hlocks hP hD hS dX4_status_59
        · have hf := im c5 hf
          refine lv_iload_n hx hb dX4_status_30 rfl (lv_at hl 1 rfl) ?_
          refine lv_aload_n hx hb dX4_status_31 rfl (lv_at hl 2 rfl) ?_
          refine va_get (D := E.1) (ci := 4) (v := .ref (a 6)) (C := RX4) (T := TX4) (N := 18) hx hb hts inX4 hown hE.2.1 hP 0 rfl rfl 5 (by decide) (hE.w tw_603) (fun _ h9 => h9) rfl dX4_status_32 ?_
          refine lv_iload_n hx hb dX4_status_35 rfl (lv_at hl 0 rfl) ?_
          obtain ⟨hg8, hf⟩ := gd_some hf
          refine va_iald hx hb hE.2.1 hP 5 0 rfl rfl hg8 dX4_status_36 ?_
          refine lv_iadd hx hb dX4_status_37 ?_
          refine lv_istore_n (lv' := [(2, .int (v2_4 + ((g4_found m0) v3_4.toNatClampNeg))), (3, .int v3_4), (0, .ref (a 0)), (1, .int p1)]) hx hb dX4_status_38 rfl hl (by decide) rfl (fun ls hl => ?_)
          refine lv_iinc (v := (v3_4 + (1 : Int32))) (lv' := [(3, .int (v3_4 + (1 : Int32))), (2, .int (v2_4 + ((g4_found m0) v3_4.toNatClampNeg))), (0, .ref (a 0)), (1, .int p1)]) hx hb dX4_status_39 hl (k := 1) rfl rfl (by decide) rfl (fun ls hl => ?_)
          refine lv_goto (tgt := 24) hx hb dX4_status_42 (by decide) ?_
          exact ih_4 _ _ hf _ _ _ hP hD hS (lv_sub hl [0, 1, 2, 3] rfl)
    exact L_4 _ _ _ hf _ _ _ hP hD hS (lv_sub hl [0, 1, 2, 3] rfl)
  · have hf := ip c3 hf
    refine lv_aload_n hx hb dX4_status_14 rfl (lv_at hl 0 rfl) ?_
    refine lv_iconst (v := (0 : Int32)) hx hb dX4_status_15 (by decide) ?_
    obtain ⟨r10, m11, hc9, hf⟩ := bd2_some hf
    refine cV (X := List.take 0 (wX4 E a m0)) (Y := List.drop 12 (wX4 E a m0)) (w := (wX4 E a m0)) (w' := (wX4 E a m11)) (q0 := 0) lk_X4_92 hx hb hml hown hE hA (c_X4_finds l E a m0 (0 : Int32) r10 m11 hc9) rfl rfl hP hD hS rfl rfl ⟨rfl, rfl, Nat.le_of_ble_eq_true rfl, Nat.le_of_ble_eq_true rfl⟩ hl.1 (As := [.int (0 : Int32)]) (rest := []) rfl rfl (Nat.le_of_ble_eq_true rfl) ⟨Nat.zero_le _, Nat.zero_le _⟩ dX4_status_16 (fun H locs hP hD hS => ?_)
    refine W.eq (g2 := F0 m 19 ls [.int r10]) rfl ?_
    obtain ⟨rfl, rfl⟩ := so2 hf
    exact rt_i hx hb hr hlocks hP hD hS dX4_status_19
