def lp_X4_momentGoes_135  : Nat → (Int32) → (MS) → Option (MS)
  | 0, _, _ => none
  | k_14 + 1, v2_14, m0_14 => gd (0 : Int32) 67 (if ((g4_d m0_14) (0 : Int32).toNatClampNeg) ≤ v2_14 then gd (1 : Int32) 67 (gd (1 : Int32) 67 (jn1 (s4_d m0_14 (upd (g4_d m0_14) (1 : Int32).toNatClampNeg (((g4_d m0_14) (1 : Int32).toNatClampNeg) + (1 : Int32)))) (fun m_19 => some (m_19)))) else bd1 (f_X4_its m0_14 v2_14 (1 : Int32)) (fun r21 => bd1 (f_X4_stales m0_14 v2_14) (fun r23 => bd1 (f_X4_held (r21 - r23) (0 : Int32) (99 : Int32)) (fun r25 => bd1 (f_X4_sets m0_14 v2_14 (1 : Int32) r25) (fun m27 => bd1 (f_X4_sets m27 v2_14 (3 : Int32) (0 : Int32)) (fun m29 => lp_X4_momentGoes_135  k_14 (v2_14 + (1 : Int32)) m29))))))
def lp_X4_momentGoes_45 (v1_3 : Int32) : Nat → (Int32) → (MS) → Option (MS)
  | 0, _, _ => none
  | k_6 + 1, v2_6, m0_6 => gd (0 : Int32) 67 (if ((g4_d m0_6) (0 : Int32).toNatClampNeg) ≤ v2_6 then gd (2 : Int32) 67 (gd (2 : Int32) 67 (jn1 (s4_d m0_6 (upd (g4_d m0_6) (2 : Int32).toNatClampNeg ((((g4_d m0_6) (2 : Int32).toNatClampNeg) + (1 : Int32)) - ((((g4_d m0_6) (2 : Int32).toNatClampNeg) + (1 : Int32)) / (16 : Int32)) * (16 : Int32)))) (fun m_11 => gd (2 : Int32) 67 (if ((g4_d m_11) (2 : Int32).toNatClampNeg) = 0 then lp_X4_momentGoes_135  FU (0 : Int32) m_11 else some (m_11))))) else bd1 (f_X4_its m0_6 v2_6 (2 : Int32)) (fun r31 => gd v2_6 8 (bd1 (f_X4_scoresFor m0_6 v2_6 ((g4_doing m0_6) v2_6.toNatClampNeg) v1_3) (fun r34 => bd1 (f_X4_held (r31 + r34) (-9999 : Int32) (9999 : Int32)) (fun r36 => bd1 (f_X4_sets m0_6 v2_6 (2 : Int32) r36) (fun m38 => gd v2_6 8 (bd1 (f_X4_sets m38 v2_6 (3 : Int32) ((g4_doing m38) v2_6.toNatClampNeg)) (fun m41 => lp_X4_momentGoes_45 v1_3 k_6 (v2_6 + (1 : Int32)) m41))))))))
def lp_X4_momentGoes_16  : Nat → (Int32) → (Int32) → (MS) → Option (MS)
  | 0, _, _, _ => none
  | k_3 + 1, v2_3, v1_3, m0_3 => gd (0 : Int32) 67 (if ((g4_d m0_3) (0 : Int32).toNatClampNeg) ≤ v2_3 then lp_X4_momentGoes_45 v1_3 FU (0 : Int32) m0_3 else bd1 (f_X4_doesNow m0_3 v2_3) (fun r43 => gd v2_3 8 (jn1 (s4_doing m0_3 (upd (g4_doing m0_3) v2_3.toNatClampNeg r43)) (fun m_45 => lp_X4_momentGoes_16  k_3 (v2_3 + (1 : Int32)) v1_3 m_45))))
def f_X4_momentGoes (m0 : MS) : Option (MS) := gd (2 : Int32) 67 (gd ((3 : Int32) + ((g4_d m0) (2 : Int32).toNatClampNeg)) 67 (lp_X4_momentGoes_16  FU (0 : Int32) ((g4_d m0) ((3 : Int32) + ((g4_d m0) (2 : Int32).toNatClampNeg)).toNatClampNeg) m0))
set_option maxHeartbeats 4000000 in
set_option maxRecDepth 100000 in
theorem c_X4_momentGoes (l : Launch) (E : EV) (a : Nat → Nat) (m0 : MS)  (m0' : MS) (hf : f_X4_momentGoes m0 = some m0') : Ct l E yX4_momentGoes cX4_momentGoes 3 (none) (rmk 4 93) [.ref (a 0)] (wX4 E a m0) (wX4 E a m0') none := by
  refine Ct.of (by decide) (Nat.le_of_ble_eq_true rfl) ?_
  intro p e s m below meth c A ls hC hP hD hl
  obtain ⟨hx, hb, hr, hml, hown, hlocks, hE, hA⟩ := hC
  have hts : ∀ w ∈ tbl, w.before [.ref (a 0)].toArray s = true := fun w hw => hE.w hw
  have hS : va_S A s.heap s.heap [] := va_S.rf
  have hl : lv_has ls 3 [(0, .ref (a 0))] := hl
  unfold f_X4_momentGoes at hf
  refine lv_aload_n hx hb dX4_momentGoes_0 rfl (lv_at hl 0 rfl) ?_
  refine va_get (D := E.1) (ci := 4) (v := .ref (a 1)) (C := RX4) (T := TX4) (N := 18) hx hb hts inX4 hown hE.2.1 hP 0 rfl rfl 0 (by decide) (hE.w tw_598) (fun _ h9 => h9) rfl dX4_momentGoes_1 ?_
  refine lv_iconst (v := (3 : Int32)) hx hb dX4_momentGoes_4 (by decide) ?_
  refine lv_aload_n hx hb dX4_momentGoes_5 rfl (lv_at hl 0 rfl) ?_
  refine va_get (D := E.1) (ci := 4) (v := .ref (a 1)) (C := RX4) (T := TX4) (N := 18) hx hb hts inX4 hown hE.2.1 hP 0 rfl rfl 0 (by decide) (hE.w tw_598) (fun _ h9 => h9) rfl dX4_momentGoes_6 ?_
  refine lv_iconst (v := (2 : Int32)) hx hb dX4_momentGoes_9 (by decide) ?_
  obtain ⟨hg1, hf⟩ := gd_some hf
  refine va_iald hx hb hE.2.1 hP 1 0 rfl rfl hg1 dX4_momentGoes_10 ?_
  refine lv_iadd hx hb dX4_momentGoes_11 ?_
  obtain ⟨hg2, hf⟩ := gd_some hf
  refine va_iald hx hb hE.2.1 hP 1 0 rfl rfl hg2 dX4_momentGoes_12 ?_
  refine lv_istore_n (lv' := [(1, .int ((g4_d m0) ((3 : Int32) + ((g4_d m0) (2 : Int32).toNatClampNeg)).toNatClampNeg)), (0, .ref (a 0))]) hx hb dX4_momentGoes_13 rfl hl (by decide) rfl (fun ls hl => ?_)
  refine lv_iconst (v := (0 : Int32)) hx hb dX4_momentGoes_14 (by decide) ?_
  refine lv_istore_n (lv' := [(2, .int (0 : Int32)), (1, .int ((g4_d m0) ((3 : Int32) + ((g4_d m0) (2 : Int32).toNatClampNeg)).toNatClampNeg)), (0, .ref (a 0))]) hx hb dX4_momentGoes_15 rfl hl (by decide) rfl (fun ls hl => ?_)
  have L_3 : ∀ (k_3 : Nat) (v2_3 : Int32) (v1_3 : Int32) (m0_3 : MS), lp_X4_momentGoes_16  k_3 v2_3 v1_3 m0_3 = some m0' → ∀ (H : Heap) (locs : List Loc) (ls : Array Slot), va_P E.1 vwCl (wX4 E a m0_3) H → va_D A (wX4 E a m0_3) → va_S A s.heap H locs → lv_has ls 3 [(2, .int v2_3), (1, .int v1_3), (0, .ref (a 0))] → W p l e (rmk 4 93) s m [.ref (a 0)].toArray below meth c H locs 0 0 (MQ below (Qct E A (wX4 E a m0') none) [.ref (a 0)].toArray s 0 0 A) (F0 m 16 ls []) := by
    intro k_3
    induction k_3 with
    | zero =>
      intro v2_3 v1_3 m0_3 hf
      rw [lp_X4_momentGoes_16] at hf
      cases hf
    | succ k_3 ih_3 =>
      intro v2_3 v1_3 m0_3 hf H locs ls hP hD hS hl
      rw [lp_X4_momentGoes_16] at hf
      refine lv_iload_n hx hb dX4_momentGoes_16 rfl (lv_at hl 0 rfl) ?_
      refine lv_aload_n hx hb dX4_momentGoes_17 rfl (lv_at hl 2 rfl) ?_
      refine va_get (D := E.1) (ci := 4) (v := .ref (a 1)) (C := RX4) (T := TX4) (N := 18) hx hb hts inX4 hown hE.2.1 hP 0 rfl rfl 0 (by decide) (hE.w tw_598) (fun _ h9 => h9) rfl dX4_momentGoes_18 ?_
      refine lv_iconst (v := (0 : Int32)) hx hb dX4_momentGoes_21 (by decide) ?_
      obtain ⟨hg4, hf⟩ := gd_some hf
      refine va_iald hx hb hE.2.1 hP 1 0 rfl rfl hg4 dX4_momentGoes_22 ?_
      refine lv_icmp_ge (tgt := 43) hx hb dX4_momentGoes_23 (by decide) (fun c5 => ?_) (fun c5 => ?_)
      · have hf := ip c5 hf
        refine lv_iconst (v := (0 : Int32)) hx hb dX4_momentGoes_43 (by decide) ?_
        refine lv_istore_n (lv' := [(2, .int (0 : Int32)), (1, .int v1_3), (0, .ref (a 0))]) hx hb dX4_momentGoes_44 rfl hl (by decide) rfl (fun ls hl => ?_)
        have L_6 : ∀ (k_6 : Nat) (v2_6 : Int32) (m0_6 : MS), lp_X4_momentGoes_45 v1_3 k_6 v2_6 m0_6 = some m0' → ∀ (H : Heap) (locs : List Loc) (ls : Array Slot), va_P E.1 vwCl (wX4 E a m0_6) H → va_D A (wX4 E a m0_6) → va_S A s.heap H locs → lv_has ls 3 [(2, .int v2_6), (1, .int v1_3), (0, .ref (a 0))] → W p l e (rmk 4 93) s m [.ref (a 0)].toArray below meth c H locs 0 0 (MQ below (Qct E A (wX4 E a m0') none) [.ref (a 0)].toArray s 0 0 A) (F0 m 45 ls []) := by
          intro k_6
          induction k_6 with
          | zero =>
            intro v2_6 m0_6 hf
            rw [lp_X4_momentGoes_45] at hf
            cases hf
          | succ k_6 ih_6 =>
            intro v2_6 m0_6 hf H locs ls hP hD hS hl
            rw [lp_X4_momentGoes_45] at hf
            refine lv_iload_n hx hb dX4_momentGoes_45 rfl (lv_at hl 0 rfl) ?_
            refine lv_aload_n hx hb dX4_momentGoes_46 rfl (lv_at hl 2 rfl) ?_
            refine va_get (D := E.1) (ci := 4) (v := .ref (a 1)) (C := RX4) (T := TX4) (N := 18) hx hb hts inX4 hown hE.2.1 hP 0 rfl rfl 0 (by decide) (hE.w tw_598) (fun _ h9 => h9) rfl dX4_momentGoes_47 ?_
            refine lv_iconst (v := (0 : Int32)) hx hb dX4_momentGoes_50 (by decide) ?_
            obtain ⟨hg7, hf⟩ := gd_some hf
            refine va_iald hx hb hE.2.1 hP 1 0 rfl rfl hg7 dX4_momentGoes_51 ?_
            refine lv_icmp_ge (tgt := 107) hx hb dX4_momentGoes_52 (by decide) (fun c8 => ?_) (fun c8 => ?_)
            · have hf := ip c8 hf
              refine lv_aload_n hx hb dX4_momentGoes_107 rfl (lv_at hl 2 rfl) ?_
              refine va_get (D := E.1) (ci := 4) (v := .ref (a 1)) (C := RX4) (T := TX4) (N := 18) hx hb hts inX4 hown hE.2.1 hP 0 rfl rfl 0 (by decide) (hE.w tw_598) (fun _ h9 => h9) rfl dX4_momentGoes_108 ?_
              refine lv_iconst (v := (2 : Int32)) hx hb dX4_momentGoes_111 (by decide) ?_
              refine lv_aload_n hx hb dX4_momentGoes_112 rfl (lv_at hl 2 rfl) ?_
              refine va_get (D := E.1) (ci := 4) (v := .ref (a 1)) (C := RX4) (T := TX4) (N := 18) hx hb hts inX4 hown hE.2.1 hP 0 rfl rfl 0 (by decide) (hE.w tw_598) (fun _ h9 => h9) rfl dX4_momentGoes_113 ?_
              refine lv_iconst (v := (2 : Int32)) hx hb dX4_momentGoes_116 (by decide) ?_
              obtain ⟨hg9, hf⟩ := gd_some hf
              refine va_iald hx hb hE.2.1 hP 1 0 rfl rfl hg9 dX4_momentGoes_117 ?_
              refine lv_iconst (v := (1 : Int32)) hx hb dX4_momentGoes_118 (by decide) ?_
              refine lv_iadd hx hb dX4_momentGoes_119 ?_
              refine lv_bipush (v := (16 : Int32)) hx hb dX4_momentGoes_120 (by decide) ?_
              refine lv_irem hx hb dX4_momentGoes_122 (by decide) ?_
              obtain ⟨hg10, hf⟩ := gd_some hf
              obtain ⟨m_11, em_11, hf⟩ := jn1_some hf
              refine va_iast hx hb hE.2.1 hP hD hS 1 0 rfl rfl hg10 dX4_momentGoes_123 (fun H locs hP hD hS => ?_)
              have hP : va_P E.1 vwCl (wX4 E a m_11) H := wst (by rw [em_11]; exact rfl) hP
              have hD : va_D A (wX4 E a m_11) := wsd (by rw [em_11]; exact rfl) hD
              refine lv_aload_n hx hb dX4_momentGoes_124 rfl (lv_at hl 2 rfl) ?_
              refine va_get (D := E.1) (ci := 4) (v := .ref (a 1)) (C := RX4) (T := TX4) (N := 18) hx hb hts inX4 hown hE.2.1 hP 0 rfl rfl 0 (by decide) (hE.w tw_598) (fun _ h9 => h9) rfl dX4_momentGoes_125 ?_
              refine lv_iconst (v := (2 : Int32)) hx hb dX4_momentGoes_128 (by decide) ?_
              obtain ⟨hg12, hf⟩ := gd_some hf
              refine va_iald hx hb hE.2.1 hP 1 0 rfl rfl hg12 dX4_momentGoes_129 ?_
              refine lv_if_ne (tgt := 192) hx hb dX4_momentGoes_130 (by decide) (fun c13 => ?_) (fun c13 => ?_)
              · have hf := im c13 hf
                obtain rfl := so1 hf
                exact rt_v hx hb hr hlocks hP hD hS dX4_momentGoes_192
              · have hf := ip c13 hf
                refine lv_iconst (v := (0 : Int32)) hx hb dX4_momentGoes_133 (by decide) ?_
                refine lv_istore_n (lv' := [(2, .int (0 : Int32)), (1, .int v1_3), (0, .ref (a 0))]) hx hb dX4_momentGoes_134 rfl hl (by decide) rfl (fun ls hl => ?_)
                have L_14 : ∀ (k_14 : Nat) (v2_14 : Int32) (m0_14 : MS), lp_X4_momentGoes_135  k_14 v2_14 m0_14 = some m0' → ∀ (H : Heap) (locs : List Loc) (ls : Array Slot), va_P E.1 vwCl (wX4 E a m0_14) H → va_D A (wX4 E a m0_14) → va_S A s.heap H locs → lv_has ls 3 [(2, .int v2_14), (1, .int v1_3), (0, .ref (a 0))] → W p l e (rmk 4 93) s m [.ref (a 0)].toArray below meth c H locs 0 0 (MQ below (Qct E A (wX4 E a m0') none) [.ref (a 0)].toArray s 0 0 A) (F0 m 135 ls []) := by
                  intro k_14
                  induction k_14 with
                  | zero =>
                    intro v2_14 m0_14 hf
                    rw [lp_X4_momentGoes_135] at hf
                    cases hf
                  | succ k_14 ih_14 =>
                    intro v2_14 m0_14 hf H locs ls hP hD hS hl
                    rw [lp_X4_momentGoes_135] at hf
                    refine lv_iload_n hx hb dX4_momentGoes_135 rfl (lv_at hl 0 rfl) ?_
                    refine lv_aload_n hx hb dX4_momentGoes_136 rfl (lv_at hl 2 rfl) ?_
                    refine va_get (D := E.1) (ci := 4) (v := .ref (a 1)) (C := RX4) (T := TX4) (N := 18) hx hb hts inX4 hown hE.2.1 hP 0 rfl rfl 0 (by decide) (hE.w tw_598) (fun _ h9 => h9) rfl dX4_momentGoes_137 ?_
                    refine lv_iconst (v := (0 : Int32)) hx hb dX4_momentGoes_140 (by decide) ?_
                    obtain ⟨hg15, hf⟩ := gd_some hf
                    refine va_iald hx hb hE.2.1 hP 1 0 rfl rfl hg15 dX4_momentGoes_141 ?_
                    refine lv_icmp_ge (tgt := 182) hx hb dX4_momentGoes_142 (by decide) (fun c16 => ?_) (fun c16 => ?_)
                    · have hf := ip c16 hf
                      refine lv_aload_n hx hb dX4_momentGoes_182 rfl (lv_at hl 2 rfl) ?_
                      refine va_get (D := E.1) (ci := 4) (v := .ref (a 1)) (C := RX4) (T := TX4) (N := 18) hx hb hts inX4 hown hE.2.1 hP 0 rfl rfl 0 (by decide) (hE.w tw_598) (fun _ h9 => h9) rfl dX4_momentGoes_183 ?_
                      refine lv_iconst (v := (1 : Int32)) hx hb dX4_momentGoes_186 (by decide) ?_
                      refine lv_dup2_11 hx hb dX4_momentGoes_187 rfl rfl ?_
                      obtain ⟨hg17, hf⟩ := gd_some hf
                      refine va_iald hx hb hE.2.1 hP 1 0 rfl rfl hg17 dX4_momentGoes_188 ?_
                      refine lv_iconst (v := (1 : Int32)) hx hb dX4_momentGoes_189 (by decide) ?_
                      refine lv_iadd hx hb dX4_momentGoes_190 ?_
                      obtain ⟨hg18, hf⟩ := gd_some hf
                      obtain ⟨m_19, em_19, hf⟩ := jn1_some hf
                      refine va_iast hx hb hE.2.1 hP hD hS 1 0 rfl rfl hg18 dX4_momentGoes_191 (fun H locs hP hD hS => ?_)
                      have hP : va_P E.1 vwCl (wX4 E a m_19) H := wst (by rw [em_19]; exact rfl) hP
                      have hD : va_D A (wX4 E a m_19) := wsd (by rw [em_19]; exact rfl) hD
                      obtain rfl := so1 hf
                      exact rt_v hx hb hr hlocks hP hD hS dX4_momentGoes_192
                    · have hf := im c16 hf
                      refine lv_aload_n hx hb dX4_momentGoes_145 rfl (lv_at hl 2 rfl) ?_
                      refine lv_iload_n hx hb dX4_momentGoes_146 rfl (lv_at hl 0 rfl) ?_
                      refine lv_iconst (v := (1 : Int32)) hx hb dX4_momentGoes_147 (by decide) ?_
                      refine lv_aload_n hx hb dX4_momentGoes_148 rfl (lv_at hl 2 rfl) ?_
                      refine lv_iload_n hx hb dX4_momentGoes_149 rfl (lv_at hl 0 rfl) ?_
                      refine lv_iconst (v := (1 : Int32)) hx hb dX4_momentGoes_150 (by decide) ?_
                      obtain ⟨r21, hc20, hf⟩ := bd1_some hf
                      refine cV (X := List.take 0 (wX4 E a m0_14)) (Y := List.drop 12 (wX4 E a m0_14)) (w := (wX4 E a m0_14)) (w' := (wX4 E a m0_14)) (q0 := 0) lk_X4_54 hx hb hml hown hE hA (c_X4_its l E a m0_14 v2_14 (1 : Int32) r21 hc20) rfl rfl hP hD hS rfl rfl ⟨rfl, rfl, Nat.le_of_ble_eq_true rfl, Nat.le_of_ble_eq_true rfl⟩ hl.1 (As := [.int v2_14, .int (1 : Int32)]) (rest := [.int (1 : Int32), .int v2_14, .ref (a 0)]) rfl rfl (Nat.le_of_ble_eq_true rfl) ⟨Nat.zero_le _, Nat.zero_le _⟩ dX4_momentGoes_151 (fun H locs hP hD hS => ?_)
                      refine W.eq (g2 := F0 m 154 ls [.int r21, .int (1 : Int32), .int v2_14, .ref (a 0)]) rfl ?_
                      refine lv_aload_n hx hb dX4_momentGoes_154 rfl (lv_at hl 2 rfl) ?_
                      refine lv_iload_n hx hb dX4_momentGoes_155 rfl (lv_at hl 0 rfl) ?_
                      obtain ⟨r23, hc22, hf⟩ := bd1_some hf
                      refine cV (X := List.take 0 (wX4 E a m0_14)) (Y := List.drop 12 (wX4 E a m0_14)) (w := (wX4 E a m0_14)) (w' := (wX4 E a m0_14)) (q0 := 0) lk_X4_77 hx hb hml hown hE hA (c_X4_stales l E a m0_14 v2_14 r23 hc22) rfl rfl hP hD hS rfl rfl ⟨rfl, rfl, Nat.le_of_ble_eq_true rfl, Nat.le_of_ble_eq_true rfl⟩ hl.1 (As := [.int v2_14]) (rest := [.int r21, .int (1 : Int32), .int v2_14, .ref (a 0)]) rfl rfl (Nat.le_of_ble_eq_true rfl) ⟨Nat.zero_le _, Nat.zero_le _⟩ dX4_momentGoes_156 (fun H locs hP hD hS => ?_)
                      refine W.eq (g2 := F0 m 159 ls [.int r23, .int r21, .int (1 : Int32), .int v2_14, .ref (a 0)]) rfl ?_
                      refine lv_isub hx hb dX4_momentGoes_159 ?_
                      refine lv_iconst (v := (0 : Int32)) hx hb dX4_momentGoes_160 (by decide) ?_
                      refine lv_bipush (v := (99 : Int32)) hx hb dX4_momentGoes_161 (by decide) ?_
                      obtain ⟨r25, hc24, hf⟩ := bd1_some hf
                      refine cS (X := List.take 0 (wX4 E a m0_14)) (Y := List.drop 0 (wX4 E a m0_14)) (w := (wX4 E a m0_14)) (w' := (wX4 E a m0_14)) lk_X4_62 hx hb hml hown hE hA (c_X4_held l E (r21 - r23) (0 : Int32) (99 : Int32) r25 hc24) rfl rfl hP hD hS ⟨rfl, rfl, Nat.le_of_ble_eq_true rfl, Nat.le_of_ble_eq_true rfl⟩ hl.1 (As := [.int (r21 - r23), .int (0 : Int32), .int (99 : Int32)]) (rest := [.int (1 : Int32), .int v2_14, .ref (a 0)]) rfl rfl (Nat.le_of_ble_eq_true rfl) ⟨Nat.zero_le _, Nat.zero_le _⟩ dX4_momentGoes_163 (fun H locs hP hD hS => ?_)
                      refine W.eq (g2 := F0 m 166 ls [.int r25, .int (1 : Int32), .int v2_14, .ref (a 0)]) rfl ?_
                      obtain ⟨m27, hc26, hf⟩ := bd1_some hf
                      refine cV (X := List.take 0 (wX4 E a m0_14)) (Y := List.drop 12 (wX4 E a m0_14)) (w := (wX4 E a m0_14)) (w' := (wX4 E a m27)) (q0 := 0) lk_X4_73 hx hb hml hown hE hA (c_X4_sets l E a m0_14 v2_14 (1 : Int32) r25 m27 hc26) rfl rfl hP hD hS rfl rfl ⟨rfl, rfl, Nat.le_of_ble_eq_true rfl, Nat.le_of_ble_eq_true rfl⟩ hl.1 (As := [.int v2_14, .int (1 : Int32), .int r25]) (rest := []) rfl rfl (Nat.le_of_ble_eq_true rfl) ⟨Nat.zero_le _, Nat.zero_le _⟩ dX4_momentGoes_166 (fun H locs hP hD hS => ?_)
                      refine W.eq (g2 := F0 m 169 ls []) rfl ?_
                      refine lv_aload_n hx hb dX4_momentGoes_169 rfl (lv_at hl 2 rfl) ?_
                      refine lv_iload_n hx hb dX4_momentGoes_170 rfl (lv_at hl 0 rfl) ?_
                      refine lv_iconst (v := (3 : Int32)) hx hb dX4_momentGoes_171 (by decide) ?_
                      refine lv_iconst (v := (0 : Int32)) hx hb dX4_momentGoes_172 (by decide) ?_
                      obtain ⟨m29, hc28, hf⟩ := bd1_some hf
                      refine cV (X := List.take 0 (wX4 E a m27)) (Y := List.drop 12 (wX4 E a m27)) (w := (wX4 E a m27)) (w' := (wX4 E a m29)) (q0 := 0) lk_X4_73 hx hb hml hown hE hA (c_X4_sets l E a m27 v2_14 (3 : Int32) (0 : Int32) m29 hc28) rfl rfl hP hD hS rfl rfl ⟨rfl, rfl, Nat.le_of_ble_eq_true rfl, Nat.le_of_ble_eq_true rfl⟩ hl.1 (As := [.int v2_14, .int (3 : Int32), .int (0 : Int32)]) (rest := []) rfl rfl (Nat.le_of_ble_eq_true rfl) ⟨Nat.zero_le _, Nat.zero_le _⟩ dX4_momentGoes_173 (fun H locs hP hD hS => ?_)
                      refine W.eq (g2 := F0 m 176 ls []) rfl ?_
                      refine lv_iinc (v := (v2_14 + (1 : Int32))) (lv' := [(2, .int (v2_14 + (1 : Int32))), (1, .int v1_3), (0, .ref (a 0))]) hx hb dX4_momentGoes_176 hl (k := 0) rfl rfl (by decide) rfl (fun ls hl => ?_)
                      refine lv_goto (tgt := 135) hx hb dX4_momentGoes_179 (by decide) ?_
                      exact ih_14 _ _ hf _ _ _ hP hD hS (lv_sub hl [0, 1, 2] rfl)
                exact L_14 _ _ _ hf _ _ _ hP hD hS (lv_sub hl [0, 1, 2] rfl)
            · have hf := im c8 hf
              refine lv_aload_n hx hb dX4_momentGoes_55 rfl (lv_at hl 2 rfl) ?_
              refine lv_iload_n hx hb dX4_momentGoes_56 rfl (lv_at hl 0 rfl) ?_
              refine lv_iconst (v := (2 : Int32)) hx hb dX4_momentGoes_57 (by decide) ?_
              refine lv_aload_n hx hb dX4_momentGoes_58 rfl (lv_at hl 2 rfl) ?_
              refine lv_iload_n hx hb dX4_momentGoes_59 rfl (lv_at hl 0 rfl) ?_
              refine lv_iconst (v := (2 : Int32)) hx hb dX4_momentGoes_60 (by decide) ?_
              obtain ⟨r31, hc30, hf⟩ := bd1_some hf
              refine cV (X := List.take 0 (wX4 E a m0_6)) (Y := List.drop 12 (wX4 E a m0_6)) (w := (wX4 E a m0_6)) (w' := (wX4 E a m0_6)) (q0 := 0) lk_X4_54 hx hb hml hown hE hA (c_X4_its l E a m0_6 v2_6 (2 : Int32) r31 hc30) rfl rfl hP hD hS rfl rfl ⟨rfl, rfl, Nat.le_of_ble_eq_true rfl, Nat.le_of_ble_eq_true rfl⟩ hl.1 (As := [.int v2_6, .int (2 : Int32)]) (rest := [.int (2 : Int32), .int v2_6, .ref (a 0)]) rfl rfl (Nat.le_of_ble_eq_true rfl) ⟨Nat.zero_le _, Nat.zero_le _⟩ dX4_momentGoes_61 (fun H locs hP hD hS => ?_)
              refine W.eq (g2 := F0 m 64 ls [.int r31, .int (2 : Int32), .int v2_6, .ref (a 0)]) rfl ?_
              refine lv_aload_n hx hb dX4_momentGoes_64 rfl (lv_at hl 2 rfl) ?_
              refine lv_iload_n hx hb dX4_momentGoes_65 rfl (lv_at hl 0 rfl) ?_
              refine lv_aload_n hx hb dX4_momentGoes_66 rfl (lv_at hl 2 rfl) ?_
              refine va_get (D := E.1) (ci := 4) (v := .ref (a 9)) (C := RX4) (T := TX4) (N := 18) hx hb hts inX4 hown hE.2.1 hP 0 rfl rfl 8 (by decide) (hE.w tw_606) (fun _ h9 => h9) rfl dX4_momentGoes_67 ?_
              refine lv_iload_n hx hb dX4_momentGoes_70 rfl (lv_at hl 0 rfl) ?_
              obtain ⟨hg32, hf⟩ := gd_some hf
              refine va_iald hx hb hE.2.1 hP 7 0 rfl rfl hg32 dX4_momentGoes_71 ?_
              refine lv_iload_n hx hb dX4_momentGoes_72 rfl (lv_at hl 1 rfl) ?_
              obtain ⟨r34, hc33, hf⟩ := bd1_some hf
              refine cV (X := List.take 0 (wX4 E a m0_6)) (Y := List.drop 12 (wX4 E a m0_6)) (w := (wX4 E a m0_6)) (w' := (wX4 E a m0_6)) (q0 := 0) lk_X4_70 hx hb hml hown hE hA (c_X4_scoresFor l E a m0_6 v2_6 ((g4_doing m0_6) v2_6.toNatClampNeg) v1_3 r34 hc33) rfl rfl hP hD hS rfl rfl ⟨rfl, rfl, Nat.le_of_ble_eq_true rfl, Nat.le_of_ble_eq_true rfl⟩ hl.1 (As := [.int v2_6, .int ((g4_doing m0_6) v2_6.toNatClampNeg), .int v1_3]) (rest := [.int r31, .int (2 : Int32), .int v2_6, .ref (a 0)]) rfl rfl (Nat.le_of_ble_eq_true rfl) ⟨Nat.zero_le _, Nat.zero_le _⟩ dX4_momentGoes_73 (fun H locs hP hD hS => ?_)
              refine W.eq (g2 := F0 m 76 ls [.int r34, .int r31, .int (2 : Int32), .int v2_6, .ref (a 0)]) rfl ?_
              refine lv_iadd hx hb dX4_momentGoes_76 ?_
              refine lv_sipush (v := (-9999 : Int32)) hx hb dX4_momentGoes_77 (by decide) ?_
              refine lv_sipush (v := (9999 : Int32)) hx hb dX4_momentGoes_80 (by decide) ?_
              obtain ⟨r36, hc35, hf⟩ := bd1_some hf
              refine cS (X := List.take 0 (wX4 E a m0_6)) (Y := List.drop 0 (wX4 E a m0_6)) (w := (wX4 E a m0_6)) (w' := (wX4 E a m0_6)) lk_X4_62 hx hb hml hown hE hA (c_X4_held l E (r31 + r34) (-9999 : Int32) (9999 : Int32) r36 hc35) rfl rfl hP hD hS ⟨rfl, rfl, Nat.le_of_ble_eq_true rfl, Nat.le_of_ble_eq_true rfl⟩ hl.1 (As := [.int (r31 + r34), .int (-9999 : Int32), .int (9999 : Int32)]) (rest := [.int (2 : Int32), .int v2_6, .ref (a 0)]) rfl rfl (Nat.le_of_ble_eq_true rfl) ⟨Nat.zero_le _, Nat.zero_le _⟩ dX4_momentGoes_83 (fun H locs hP hD hS => ?_)
              refine W.eq (g2 := F0 m 86 ls [.int r36, .int (2 : Int32), .int v2_6, .ref (a 0)]) rfl ?_
              obtain ⟨m38, hc37, hf⟩ := bd1_some hf
              refine cV (X := List.take 0 (wX4 E a m0_6)) (Y := List.drop 12 (wX4 E a m0_6)) (w := (wX4 E a m0_6)) (w' := (wX4 E a m38)) (q0 := 0) lk_X4_73 hx hb hml hown hE hA (c_X4_sets l E a m0_6 v2_6 (2 : Int32) r36 m38 hc37) rfl rfl hP hD hS rfl rfl ⟨rfl, rfl, Nat.le_of_ble_eq_true rfl, Nat.le_of_ble_eq_true rfl⟩ hl.1 (As := [.int v2_6, .int (2 : Int32), .int r36]) (rest := []) rfl rfl (Nat.le_of_ble_eq_true rfl) ⟨Nat.zero_le _, Nat.zero_le _⟩ dX4_momentGoes_86 (fun H locs hP hD hS => ?_)
              refine W.eq (g2 := F0 m 89 ls []) rfl ?_
              refine lv_aload_n hx hb dX4_momentGoes_89 rfl (lv_at hl 2 rfl) ?_
              refine lv_iload_n hx hb dX4_momentGoes_90 rfl (lv_at hl 0 rfl) ?_
              refine lv_iconst (v := (3 : Int32)) hx hb dX4_momentGoes_91 (by decide) ?_
              refine lv_aload_n hx hb dX4_momentGoes_92 rfl (lv_at hl 2 rfl) ?_
              refine va_get (D := E.1) (ci := 4) (v := .ref (a 9)) (C := RX4) (T := TX4) (N := 18) hx hb hts inX4 hown hE.2.1 hP 0 rfl rfl 8 (by decide) (hE.w tw_606) (fun _ h9 => h9) rfl dX4_momentGoes_93 ?_
              refine lv_iload_n hx hb dX4_momentGoes_96 rfl (lv_at hl 0 rfl) ?_
              obtain ⟨hg39, hf⟩ := gd_some hf
              refine va_iald hx hb hE.2.1 hP 7 0 rfl rfl hg39 dX4_momentGoes_97 ?_
              obtain ⟨m41, hc40, hf⟩ := bd1_some hf
              refine cV (X := List.take 0 (wX4 E a m38)) (Y := List.drop 12 (wX4 E a m38)) (w := (wX4 E a m38)) (w' := (wX4 E a m41)) (q0 := 0) lk_X4_73 hx hb hml hown hE hA (c_X4_sets l E a m38 v2_6 (3 : Int32) ((g4_doing m38) v2_6.toNatClampNeg) m41 hc40) rfl rfl hP hD hS rfl rfl ⟨rfl, rfl, Nat.le_of_ble_eq_true rfl, Nat.le_of_ble_eq_true rfl⟩ hl.1 (As := [.int v2_6, .int (3 : Int32), .int ((g4_doing m38) v2_6.toNatClampNeg)]) (rest := []) rfl rfl (Nat.le_of_ble_eq_true rfl) ⟨Nat.zero_le _, Nat.zero_le _⟩ dX4_momentGoes_98 (fun H locs hP hD hS => ?_)
              refine W.eq (g2 := F0 m 101 ls []) rfl ?_
              refine lv_iinc (v := (v2_6 + (1 : Int32))) (lv' := [(2, .int (v2_6 + (1 : Int32))), (1, .int v1_3), (0, .ref (a 0))]) hx hb dX4_momentGoes_101 hl (k := 0) rfl rfl (by decide) rfl (fun ls hl => ?_)
              refine lv_goto (tgt := 45) hx hb dX4_momentGoes_104 (by decide) ?_
              exact ih_6 _ _ hf _ _ _ hP hD hS (lv_sub hl [0, 1, 2] rfl)
        exact L_6 _ _ _ hf _ _ _ hP hD hS (lv_sub hl [0, 1, 2] rfl)
      · have hf := im c5 hf
        refine lv_aload_n hx hb dX4_momentGoes_26 rfl (lv_at hl 2 rfl) ?_
        refine va_get (D := E.1) (ci := 4) (v := .ref (a 9)) (C := RX4) (T := TX4) (N := 18) hx hb hts inX4 hown hE.2.1 hP 0 rfl rfl 8 (by decide) (hE.w tw_606) (fun _ h9 => h9) rfl dX4_momentGoes_27 ?_
        refine lv_iload_n hx hb dX4_momentGoes_30 rfl (lv_at hl 0 rfl) ?_
        refine lv_aload_n hx hb dX4_momentGoes_31 rfl (lv_at hl 2 rfl) ?_
        refine lv_iload_n hx hb dX4_momentGoes_32 rfl (lv_at hl 0 rfl) ?_
        obtain ⟨r43, hc42, hf⟩ := bd1_some hf
        refine cV (X := List.take 0 (wX4 E a m0_3)) (Y := List.drop 12 (wX4 E a m0_3)) (w := (wX4 E a m0_3)) (w' := (wX4 E a m0_3)) (q0 := 0) lk_X4_66 hx hb hml hown hE hA (c_X4_doesNow l E a m0_3 v2_3 r43 hc42) rfl rfl hP hD hS rfl rfl ⟨rfl, rfl, Nat.le_of_ble_eq_true rfl, Nat.le_of_ble_eq_true rfl⟩ hl.1 (As := [.int v2_3]) (rest := [.int v2_3, .ref (a 9)]) rfl rfl (Nat.le_of_ble_eq_true rfl) ⟨Nat.zero_le _, Nat.zero_le _⟩ dX4_momentGoes_33 (fun H locs hP hD hS => ?_)
        refine W.eq (g2 := F0 m 36 ls [.int r43, .int v2_3, .ref (a 9)]) rfl ?_
        obtain ⟨hg44, hf⟩ := gd_some hf
        obtain ⟨m_45, em_45, hf⟩ := jn1_some hf
        refine va_iast hx hb hE.2.1 hP hD hS 7 0 rfl rfl hg44 dX4_momentGoes_36 (fun H locs hP hD hS => ?_)
        have hP : va_P E.1 vwCl (wX4 E a m_45) H := wst (by rw [em_45]; exact rfl) hP
        have hD : va_D A (wX4 E a m_45) := wsd (by rw [em_45]; exact rfl) hD
        refine lv_iinc (v := (v2_3 + (1 : Int32))) (lv' := [(2, .int (v2_3 + (1 : Int32))), (1, .int v1_3), (0, .ref (a 0))]) hx hb dX4_momentGoes_37 hl (k := 0) rfl rfl (by decide) rfl (fun ls hl => ?_)
        refine lv_goto (tgt := 16) hx hb dX4_momentGoes_40 (by decide) ?_
        exact ih_3 _ _ _ hf _ _ _ hP hD hS (lv_sub hl [0, 1, 2] rfl)
  exact L_3 _ _ _ _ hf _ _ _ hP hD hS (lv_sub hl [0, 1, 2] rfl)
def lp_X4_momentsGo_2 (p1 : Int32) : Nat → (Int32) → (MS) → Option (MS)
  | 0, _, _ => none
  | k_1 + 1, v2_1, m0_1 => if p1 ≤ v2_1 then some (m0_1) else bd1 (f_X4_momentGoes m0_1) (fun m4 => lp_X4_momentsGo_2 p1 k_1 (v2_1 + (1 : Int32)) m4)
def f_X4_momentsGo (m0 : MS) (p1 : Int32) : Option (MS) := lp_X4_momentsGo_2 p1 FU (0 : Int32) m0
set_option maxHeartbeats 4000000 in
set_option maxRecDepth 100000 in
theorem c_X4_momentsGo (l : Launch) (E : EV) (a : Nat → Nat) (m0 : MS) (p1 : Int32)  (m0' : MS) (hf : f_X4_momentsGo m0 p1 = some m0') : Ct l E yX4_momentsGo cX4_momentsGo 3 (none) (rmk 5 115) [.ref (a 0), .int p1] (wX4 E a m0) (wX4 E a m0') none := by
  refine Ct.of (by decide) (Nat.le_of_ble_eq_true rfl) ?_
  intro p e s m below meth c A ls hC hP hD hl
  obtain ⟨hx, hb, hr, hml, hown, hlocks, hE, hA⟩ := hC
  have hts : ∀ w ∈ tbl, w.before [.ref (a 0), .int p1].toArray s = true := fun w hw => hE.w hw
  have hS : va_S A s.heap s.heap [] := va_S.rf
  have hl : lv_has ls 3 [(0, .ref (a 0)), (1, .int p1)] := hl
  unfold f_X4_momentsGo at hf
  refine lv_iconst (v := (0 : Int32)) hx hb dX4_momentsGo_0 (by decide) ?_
  refine lv_istore_n (lv' := [(2, .int (0 : Int32)), (0, .ref (a 0)), (1, .int p1)]) hx hb dX4_momentsGo_1 rfl hl (by decide) rfl (fun ls hl => ?_)
  have L_1 : ∀ (k_1 : Nat) (v2_1 : Int32) (m0_1 : MS), lp_X4_momentsGo_2 p1 k_1 v2_1 m0_1 = some m0' → ∀ (H : Heap) (locs : List Loc) (ls : Array Slot), va_P E.1 vwCl (wX4 E a m0_1) H → va_D A (wX4 E a m0_1) → va_S A s.heap H locs → lv_has ls 3 [(2, .int v2_1), (0, .ref (a 0)), (1, .int p1)] → W p l e (rmk 5 115) s m [.ref (a 0), .int p1].toArray below meth c H locs 0 0 (MQ below (Qct E A (wX4 E a m0') none) [.ref (a 0), .int p1].toArray s 0 0 A) (F0 m 2 ls []) := by
    intro k_1
    induction k_1 with
    | zero =>
      intro v2_1 m0_1 hf
      rw [lp_X4_momentsGo_2] at hf
      cases hf
    | succ k_1 ih_1 =>
      intro v2_1 m0_1 hf H locs ls hP hD hS hl
      rw [lp_X4_momentsGo_2] at hf
      refine lv_iload_n hx hb dX4_momentsGo_2 rfl (lv_at hl 0 rfl) ?_
      refine lv_iload_n hx hb dX4_momentsGo_3 rfl (lv_at hl 2 rfl) ?_
      refine lv_icmp_ge (tgt := 17) hx hb dX4_momentsGo_4 (by decide) (fun c2 => ?_) (fun c2 => ?_)
      · have hf := ip c2 hf
        obtain rfl := so1 hf
        exact rt_v hx hb hr hlocks hP hD hS dX4_momentsGo_17
      · have hf := im c2 hf
        refine lv_aload_n hx hb dX4_momentsGo_7 rfl (lv_at hl 1 rfl) ?_
        obtain ⟨m4, hc3, hf⟩ := bd1_some hf
        refine cV (X := List.take 0 (wX4 E a m0_1)) (Y := List.drop 12 (wX4 E a m0_1)) (w := (wX4 E a m0_1)) (w' := (wX4 E a m4)) (q0 := 0) lk_X4_80 hx hb hml hown hE hA (c_X4_momentGoes l E a m0_1 m4 hc3) rfl rfl hP hD hS rfl rfl ⟨rfl, rfl, Nat.le_of_ble_eq_true rfl, Nat.le_of_ble_eq_true rfl⟩ hl.1 (As := []) (rest := []) rfl rfl (Nat.le_of_ble_eq_true rfl) ⟨Nat.zero_le _, Nat.zero_le _⟩ dX4_momentsGo_8 (fun H locs hP hD hS => ?_)
        refine W.eq (g2 := F0 m 11 ls []) rfl ?_
        refine lv_iinc (v := (v2_1 + (1 : Int32))) (lv' := [(2, .int (v2_1 + (1 : Int32))), (0, .ref (a 0)), (1, .int p1)]) hx hb dX4_momentsGo_11 hl (k := 0) rfl rfl (by decide) rfl (fun ls hl => ?_)
        refine lv_goto (tgt := 2) hx hb dX4_momentsGo_14 (by decide) ?_
        exact ih_1 _ _ hf _ _ _ hP hD hS (lv_sub hl [0, 1, 2] rfl)
  exact L_1 _ _ _ hf _ _ _ hP hD hS (lv_sub hl [0, 1, 2] rfl)
def lp_X4_sumOf_4 (m0 : MS) (p1 : Int32) : Nat → (Int32) → (Int32) → Option (Int32)
  | 0, _, _ => none
  | k_1 + 1, v3_1, v2_1 => gd (0 : Int32) 67 (if ((g4_d m0) (0 : Int32).toNatClampNeg) ≤ v3_1 then some (v2_1) else bd1 (f_X4_its m0 v3_1 p1) (fun r5 => lp_X4_sumOf_4 m0 p1 k_1 (v3_1 + (1 : Int32)) (v2_1 + r5)))
def f_X4_sumOf (m0 : MS) (p1 : Int32) : Option (Int32) := lp_X4_sumOf_4 m0 p1 FU (0 : Int32) (0 : Int32)
set_option maxHeartbeats 4000000 in
set_option maxRecDepth 100000 in
theorem c_X4_sumOf (l : Launch) (E : EV) (a : Nat → Nat) (m0 : MS) (p1 : Int32)  (r : Int32) (hf : f_X4_sumOf m0 p1 = some r) : Ct l E yX4_sumOf cX4_sumOf 4 ((Option.some FieldType.int)) (rmk 1 22) [.ref (a 0), .int p1] (wX4 E a m0) (wX4 E a m0) (some (.int r)) := by
  refine Ct.of (by decide) (Nat.le_of_ble_eq_true rfl) ?_
  intro p e s m below meth c A ls hC hP hD hl
  obtain ⟨hx, hb, hr, hml, hown, hlocks, hE, hA⟩ := hC
  have hts : ∀ w ∈ tbl, w.before [.ref (a 0), .int p1].toArray s = true := fun w hw => hE.w hw
  have hS : va_S A s.heap s.heap [] := va_S.rf
  have hl : lv_has ls 4 [(0, .ref (a 0)), (1, .int p1)] := hl
  unfold f_X4_sumOf at hf
  refine lv_iconst (v := (0 : Int32)) hx hb dX4_sumOf_0 (by decide) ?_
  refine lv_istore_n (lv' := [(2, .int (0 : Int32)), (0, .ref (a 0)), (1, .int p1)]) hx hb dX4_sumOf_1 rfl hl (by decide) rfl (fun ls hl => ?_)
  refine lv_iconst (v := (0 : Int32)) hx hb dX4_sumOf_2 (by decide) ?_
  refine lv_istore_n (lv' := [(3, .int (0 : Int32)), (2, .int (0 : Int32)), (0, .ref (a 0)), (1, .int p1)]) hx hb dX4_sumOf_3 rfl hl (by decide) rfl (fun ls hl => ?_)
  have L_1 : ∀ (k_1 : Nat) (v3_1 : Int32) (v2_1 : Int32), lp_X4_sumOf_4 m0 p1 k_1 v3_1 v2_1 = some r → ∀ (H : Heap) (locs : List Loc) (ls : Array Slot), va_P E.1 vwCl (wX4 E a m0) H → va_D A (wX4 E a m0) → va_S A s.heap H locs → lv_has ls 4 [(3, .int v3_1), (2, .int v2_1), (0, .ref (a 0)), (1, .int p1)] → W p l e (rmk 1 22) s m [.ref (a 0), .int p1].toArray below meth c H locs 0 0 (MQ below (Qct E A (wX4 E a m0) (some (.int r))) [.ref (a 0), .int p1].toArray s 0 0 A) (F0 m 4 ls []) := by
    intro k_1
    induction k_1 with
    | zero =>
      intro v3_1 v2_1 hf
      rw [lp_X4_sumOf_4] at hf
      cases hf
    | succ k_1 ih_1 =>
      intro v3_1 v2_1 hf H locs ls hP hD hS hl
      rw [lp_X4_sumOf_4] at hf
      refine lv_iload_n hx hb dX4_sumOf_4 rfl (lv_at hl 0 rfl) ?_
      refine lv_aload_n hx hb dX4_sumOf_5 rfl (lv_at hl 2 rfl) ?_
      refine va_get (D := E.1) (ci := 4) (v := .ref (a 1)) (C := RX4) (T := TX4) (N := 18) hx hb hts inX4 hown hE.2.1 hP 0 rfl rfl 0 (by decide) (hE.w tw_598) (fun _ h9 => h9) rfl dX4_sumOf_6 ?_
      refine lv_iconst (v := (0 : Int32)) hx hb dX4_sumOf_9 (by decide) ?_
      obtain ⟨hg2, hf⟩ := gd_some hf
      refine va_iald hx hb hE.2.1 hP 1 0 rfl rfl hg2 dX4_sumOf_10 ?_
      refine lv_icmp_ge (tgt := 29) hx hb dX4_sumOf_11 (by decide) (fun c3 => ?_) (fun c3 => ?_)
      · have hf := ip c3 hf
        refine lv_iload_n hx hb dX4_sumOf_29 rfl (lv_at hl 1 rfl) ?_
        obtain rfl := so1 hf
        exact rt_i hx hb hr hlocks hP hD hS dX4_sumOf_30
      · have hf := im c3 hf
        refine lv_iload_n hx hb dX4_sumOf_14 rfl (lv_at hl 1 rfl) ?_
        refine lv_aload_n hx hb dX4_sumOf_15 rfl (lv_at hl 2 rfl) ?_
        refine lv_iload_n hx hb dX4_sumOf_16 rfl (lv_at hl 0 rfl) ?_
        refine lv_iload_n hx hb dX4_sumOf_17 rfl (lv_at hl 3 rfl) ?_
        obtain ⟨r5, hc4, hf⟩ := bd1_some hf
        refine cV (X := List.take 0 (wX4 E a m0)) (Y := List.drop 12 (wX4 E a m0)) (w := (wX4 E a m0)) (w' := (wX4 E a m0)) (q0 := 0) lk_X4_54 hx hb hml hown hE hA (c_X4_its l E a m0 v3_1 p1 r5 hc4) rfl rfl hP hD hS rfl rfl ⟨rfl, rfl, Nat.le_of_ble_eq_true rfl, Nat.le_of_ble_eq_true rfl⟩ hl.1 (As := [.int v3_1, .int p1]) (rest := [.int v2_1]) rfl rfl (Nat.le_of_ble_eq_true rfl) ⟨Nat.zero_le _, Nat.zero_le _⟩ dX4_sumOf_18 (fun H locs hP hD hS => ?_)
        refine W.eq (g2 := F0 m 21 ls [.int r5, .int v2_1]) rfl ?_
        refine lv_iadd hx hb dX4_sumOf_21 ?_
        refine lv_istore_n (lv' := [(2, .int (v2_1 + r5)), (3, .int v3_1), (0, .ref (a 0)), (1, .int p1)]) hx hb dX4_sumOf_22 rfl hl (by decide) rfl (fun ls hl => ?_)
        refine lv_iinc (v := (v3_1 + (1 : Int32))) (lv' := [(3, .int (v3_1 + (1 : Int32))), (2, .int (v2_1 + r5)), (0, .ref (a 0)), (1, .int p1)]) hx hb dX4_sumOf_23 hl (k := 1) rfl rfl (by decide) rfl (fun ls hl => ?_)
        refine lv_goto (tgt := 4) hx hb dX4_sumOf_26 (by decide) ?_
        exact ih_1 _ _ hf _ _ _ hP hD hS (lv_sub hl [0, 1, 2, 3] rfl)
  exact L_1 _ _ _ hf _ _ _ hP hD hS (lv_sub hl [0, 1, 2, 3] rfl)
def f_X4_isMoment (p1 : Int32) : Option (Bool) := bd1 (f_X4_in (p1.toInt64) (0 : Int64) (15 : Int64)) (fun r2 => some (r2))
set_option maxHeartbeats 4000000 in
set_option maxRecDepth 100000 in
theorem c_X4_isMoment (l : Launch) (E : EV)  (p1 : Int32)  (r : Bool) (hf : f_X4_isMoment p1 = some r) : Ct l E yX4_isMoment cX4_isMoment 1 ((Option.some FieldType.boolean)) (rmk 1 25) [.int p1] ([] : va_W) ([] : va_W) (some (.int (bI r))) := by
  refine Ct.of (by decide) (Nat.le_of_ble_eq_true rfl) ?_
  intro p e s m below meth c A ls hC hP hD hl
  obtain ⟨hx, hb, hr, hml, hown, hlocks, hE, hA⟩ := hC
  have hts : ∀ w ∈ tbl, w.before [.int p1].toArray s = true := fun w hw => hE.w hw
  have hS : va_S A s.heap s.heap [] := va_S.rf
  have hl : lv_has ls 1 [(0, .int p1)] := hl
  unfold f_X4_isMoment at hf
  refine lv_iload_n hx hb dX4_isMoment_0 rfl (lv_at hl 0 rfl) ?_
  refine lv_i2l (v := (p1.toInt64)) hx hb dX4_isMoment_1 rfl ?_
  refine lv_lconst (v := (0 : Int64)) hx hb dX4_isMoment_2 (by decide) ?_
  refine lv_ldc2 (v := (15 : Int64)) hx hb hown (hE.w tw_660) dX4_isMoment_3 ?_
  obtain ⟨r2, hc1, hf⟩ := bd1_some hf
  refine cS (X := List.take 0 ([] : va_W)) (Y := List.drop 0 ([] : va_W)) (w := ([] : va_W)) (w' := ([] : va_W)) lk_X4_46 hx hb hml hown hE hA (c_X4_in l E (p1.toInt64) (0 : Int64) (15 : Int64) r2 hc1) rfl rfl hP hD hS ⟨rfl, rfl, Nat.le_of_ble_eq_true rfl, Nat.le_of_ble_eq_true rfl⟩ hl.1 (As := [.long (p1.toInt64), .long (0 : Int64), .long (15 : Int64)]) (rest := []) rfl rfl (Nat.le_of_ble_eq_true rfl) ⟨Nat.zero_le _, Nat.zero_le _⟩ dX4_isMoment_6 (fun H locs hP hD hS => ?_)
  refine W.eq (g2 := F0 m 9 ls [.int (bI r2)]) rfl ?_
  obtain rfl := so1 hf
  exact rt_z (bI_nar _) hx hb hr hlocks hP hD hS dX4_isMoment_9
def f_X4_isDone (p1 : Int32) : Option (Bool) := bd1 (f_X4_in (p1.toInt64) (0 : Int64) (4 : Int64)) (fun r2 => some (r2))
set_option maxHeartbeats 4000000 in
set_option maxRecDepth 100000 in
theorem c_X4_isDone (l : Launch) (E : EV)  (p1 : Int32)  (r : Bool) (hf : f_X4_isDone p1 = some r) : Ct l E yX4_isDone cX4_isDone 1 ((Option.some FieldType.boolean)) (rmk 1 25) [.int p1] ([] : va_W) ([] : va_W) (some (.int (bI r))) := by
  refine Ct.of (by decide) (Nat.le_of_ble_eq_true rfl) ?_
  intro p e s m below meth c A ls hC hP hD hl
  obtain ⟨hx, hb, hr, hml, hown, hlocks, hE, hA⟩ := hC
  have hts : ∀ w ∈ tbl, w.before [.int p1].toArray s = true := fun w hw => hE.w hw
  have hS : va_S A s.heap s.heap [] := va_S.rf
  have hl : lv_has ls 1 [(0, .int p1)] := hl
  unfold f_X4_isDone at hf
  refine lv_iload_n hx hb dX4_isDone_0 rfl (lv_at hl 0 rfl) ?_
  refine lv_i2l (v := (p1.toInt64)) hx hb dX4_isDone_1 rfl ?_
  refine lv_lconst (v := (0 : Int64)) hx hb dX4_isDone_2 (by decide) ?_
  refine lv_ldc2 (v := (4 : Int64)) hx hb hown (hE.w tw_664) dX4_isDone_3 ?_
  obtain ⟨r2, hc1, hf⟩ := bd1_some hf
  refine cS (X := List.take 0 ([] : va_W)) (Y := List.drop 0 ([] : va_W)) (w := ([] : va_W)) (w' := ([] : va_W)) lk_X4_46 hx hb hml hown hE hA (c_X4_in l E (p1.toInt64) (0 : Int64) (4 : Int64) r2 hc1) rfl rfl hP hD hS ⟨rfl, rfl, Nat.le_of_ble_eq_true rfl, Nat.le_of_ble_eq_true rfl⟩ hl.1 (As := [.long (p1.toInt64), .long (0 : Int64), .long (4 : Int64)]) (rest := []) rfl rfl (Nat.le_of_ble_eq_true rfl) ⟨Nat.zero_le _, Nat.zero_le _⟩ dX4_isDone_6 (fun H locs hP hD hS => ?_)
  refine W.eq (g2 := F0 m 9 ls [.int (bI r2)]) rfl ?_
  obtain rfl := so1 hf
  exact rt_z (bI_nar _) hx hb hr hlocks hP hD hS dX4_isDone_9
def f_X4_play (m0 : MS) (p1 : Int32) (p2 : Int32) (p3 : Int32) : Option (Int32 × MS) := bd1 (f_X4_isMoment p1) (fun r2 => if (bI r2) = 0 then bd2 (f_X4_finds m0 (0 : Int32)) (fun r5 m6 => some (r5, m6)) else bd1 (f_X4_in (p2.toInt64) (0 : Int64) (1 : Int64)) (fun r8 => if (bI r8) = 0 then bd2 (f_X4_finds m0 (0 : Int32)) (fun r11 m12 => some (r11, m12)) else jn1 (if p2 = 0 then ((4 : Int64)) else ((20 : Int64))) (fun x14 => bd1 (f_X4_in (p3.toInt64) (0 : Int64) x14) (fun r18 => if (bI r18) = 0 then bd2 (f_X4_finds m0 (0 : Int32)) (fun r28 m29 => some (r28, m29)) else jn1 (if p2 = 0 then ((3 : Int32)) else ((19 : Int32))) (fun x21 => bd2 (f_X4_becomes m0 (x21 + p1) p3) (fun r25 m26 => some (r25, m26)))))))
set_option maxHeartbeats 4000000 in
set_option maxRecDepth 100000 in
theorem c_X4_play (l : Launch) (E : EV) (a : Nat → Nat) (m0 : MS) (p1 : Int32) (p2 : Int32) (p3 : Int32)  (r : Int32) (m0' : MS) (hf : f_X4_play m0 p1 p2 p3 = some (r, m0')) : Ct l E yX4_play cX4_play 4 ((Option.some FieldType.int)) (rmk 2 45) [.ref (a 0), .int p1, .int p2, .int p3] (wX4 E a m0) (wX4 E a m0') (some (.int r)) := by
  refine Ct.of (by decide) (Nat.le_of_ble_eq_true rfl) ?_
  intro p e s m below meth c A ls hC hP hD hl
  obtain ⟨hx, hb, hr, hml, hown, hlocks, hE, hA⟩ := hC
  have hts : ∀ w ∈ tbl, w.before [.ref (a 0), .int p1, .int p2, .int p3].toArray s = true := fun w hw => hE.w hw
  have hS : va_S A s.heap s.heap [] := va_S.rf
  have hl : lv_has ls 4 [(0, .ref (a 0)), (1, .int p1), (2, .int p2), (3, .int p3)] := hl
  unfold f_X4_play at hf
  refine lv_iload_n hx hb dX4_play_0 rfl (lv_at hl 1 rfl) ?_
  obtain ⟨r2, hc1, hf⟩ := bd1_some hf
  refine cS (X := List.take 0 (wX4 E a m0)) (Y := List.drop 0 (wX4 E a m0)) (w := (wX4 E a m0)) (w' := (wX4 E a m0)) lk_X4_87 hx hb hml hown hE hA (c_X4_isMoment l E p1 r2 hc1) rfl rfl hP hD hS ⟨rfl, rfl, Nat.le_of_ble_eq_true rfl, Nat.le_of_ble_eq_true rfl⟩ hl.1 (As := [.int p1]) (rest := []) rfl rfl (Nat.le_of_ble_eq_true rfl) ⟨Nat.zero_le _, Nat.zero_le _⟩ dX4_play_1 (fun H locs hP hD hS => ?_)
  refine W.eq (g2 := F0 m 4 ls [.int (bI r2)]) rfl ?_
  refine lv_if_eq (tgt := 39) hx hb dX4_play_4 (by decide) (fun c3 => ?_) (fun c3 => ?_)
  · have hf := ip c3 hf
    refine lv_aload_n hx hb dX4_play_39 rfl (lv_at hl 0 rfl) ?_
    refine lv_iconst (v := (0 : Int32)) hx hb dX4_play_40 (by decide) ?_
    obtain ⟨r5, m6, hc4, hf⟩ := bd2_some hf
    refine cV (X := List.take 0 (wX4 E a m0)) (Y := List.drop 12 (wX4 E a m0)) (w := (wX4 E a m0)) (w' := (wX4 E a m6)) (q0 := 0) lk_X4_92 hx hb hml hown hE hA (c_X4_finds l E a m0 (0 : Int32) r5 m6 hc4) rfl rfl hP hD hS rfl rfl ⟨rfl, rfl, Nat.le_of_ble_eq_true rfl, Nat.le_of_ble_eq_true rfl⟩ hl.1 (As := [.int (0 : Int32)]) (rest := []) rfl rfl (Nat.le_of_ble_eq_true rfl) ⟨Nat.zero_le _, Nat.zero_le _⟩ dX4_play_41 (fun H locs hP hD hS => ?_)
    refine W.eq (g2 := F0 m 44 ls [.int r5]) rfl ?_
    obtain ⟨rfl, rfl⟩ := so2 hf
    exact rt_i hx hb hr hlocks hP hD hS dX4_play_44
  · have hf := im c3 hf
    refine lv_iload_n hx hb dX4_play_7 rfl (lv_at hl 2 rfl) ?_
    refine lv_i2l (v := (p2.toInt64)) hx hb dX4_play_8 rfl ?_
    refine lv_lconst (v := (0 : Int64)) hx hb dX4_play_9 (by decide) ?_
    refine lv_lconst (v := (1 : Int64)) hx hb dX4_play_10 (by decide) ?_
    obtain ⟨r8, hc7, hf⟩ := bd1_some hf
    refine cS (X := List.take 0 (wX4 E a m0)) (Y := List.drop 0 (wX4 E a m0)) (w := (wX4 E a m0)) (w' := (wX4 E a m0)) lk_X4_46 hx hb hml hown hE hA (c_X4_in l E (p2.toInt64) (0 : Int64) (1 : Int64) r8 hc7) rfl rfl hP hD hS ⟨rfl, rfl, Nat.le_of_ble_eq_true rfl, Nat.le_of_ble_eq_true rfl⟩ hl.1 (As := [.long (p2.toInt64), .long (0 : Int64), .long (1 : Int64)]) (rest := []) rfl rfl (Nat.le_of_ble_eq_true rfl) ⟨Nat.zero_le _, Nat.zero_le _⟩ dX4_play_11 (fun H locs hP hD hS => ?_)
    refine W.eq (g2 := F0 m 14 ls [.int (bI r8)]) rfl ?_
    refine lv_if_eq (tgt := 39) hx hb dX4_play_14 (by decide) (fun c9 => ?_) (fun c9 => ?_)
    · have hf := ip c9 hf
      refine lv_aload_n hx hb dX4_play_39 rfl (lv_at hl 0 rfl) ?_
      refine lv_iconst (v := (0 : Int32)) hx hb dX4_play_40 (by decide) ?_
      obtain ⟨r11, m12, hc10, hf⟩ := bd2_some hf
      refine cV (X := List.take 0 (wX4 E a m0)) (Y := List.drop 12 (wX4 E a m0)) (w := (wX4 E a m0)) (w' := (wX4 E a m12)) (q0 := 0) lk_X4_92 hx hb hml hown hE hA (c_X4_finds l E a m0 (0 : Int32) r11 m12 hc10) rfl rfl hP hD hS rfl rfl ⟨rfl, rfl, Nat.le_of_ble_eq_true rfl, Nat.le_of_ble_eq_true rfl⟩ hl.1 (As := [.int (0 : Int32)]) (rest := []) rfl rfl (Nat.le_of_ble_eq_true rfl) ⟨Nat.zero_le _, Nat.zero_le _⟩ dX4_play_41 (fun H locs hP hD hS => ?_)
      refine W.eq (g2 := F0 m 44 ls [.int r11]) rfl ?_
      obtain ⟨rfl, rfl⟩ := so2 hf
      exact rt_i hx hb hr hlocks hP hD hS dX4_play_44
    · have hf := im c9 hf
      refine lv_iload_n hx hb dX4_play_17 rfl (lv_at hl 3 rfl) ?_
      refine lv_i2l (v := (p3.toInt64)) hx hb dX4_play_18 rfl ?_
      refine lv_lconst (v := (0 : Int64)) hx hb dX4_play_19 (by decide) ?_
      refine lv_iload_n hx hb dX4_play_20 rfl (lv_at hl 2 rfl) ?_
      obtain ⟨x14, hq16, hf⟩ := jn1_some hf
      have J15 : ∀ (H : Heap) (locs : List Loc) (ls : Array Slot), va_P E.1 vwCl (wX4 E a m0) H → va_D A (wX4 E a m0) → va_S A s.heap H locs → lv_has ls 4 [(0, .ref (a 0)), (1, .int p1), (2, .int p2), (3, .int p3)] → W p l e (rmk 2 45) s m [.ref (a 0), .int p1, .int p2, .int p3].toArray below meth c H locs 0 0 (MQ below (Qct E A (wX4 E a m0') (some (.int r))) [.ref (a 0), .int p1, .int p2, .int p3].toArray s 0 0 A) (F0 m 33 ls [.long x14, .long (0 : Int64), .long (p3.toInt64)]) := by
        intro H locs ls hP hD hS hl
        obtain ⟨r18, hc17, hf⟩ := bd1_some hf
        refine cS (X := List.take 0 (wX4 E a m0)) (Y := List.drop 0 (wX4 E a m0)) (w := (wX4 E a m0)) (w' := (wX4 E a m0)) lk_X4_46 hx hb hml hown hE hA (c_X4_in l E (p3.toInt64) (0 : Int64) x14 r18 hc17) rfl rfl hP hD hS ⟨rfl, rfl, Nat.le_of_ble_eq_true rfl, Nat.le_of_ble_eq_true rfl⟩ hl.1 (As := [.long (p3.toInt64), .long (0 : Int64), .long x14]) (rest := []) rfl rfl (Nat.le_of_ble_eq_true rfl) ⟨Nat.zero_le _, Nat.zero_le _⟩ dX4_play_33 (fun H locs hP hD hS => ?_)
        refine W.eq (g2 := F0 m 36 ls [.int (bI r18)]) rfl ?_
        refine lv_if_ne (tgt := 45) hx hb dX4_play_36 (by decide) (fun c19 => ?_) (fun c19 => ?_)
        · have hf := im c19 hf
          refine lv_aload_n hx hb dX4_play_45 rfl (lv_at hl 0 rfl) ?_
          refine lv_iload_n hx hb dX4_play_46 rfl (lv_at hl 2 rfl) ?_
          obtain ⟨x21, hq23, hf⟩ := jn1_some hf
          have J22 : ∀ (H : Heap) (locs : List Loc) (ls : Array Slot), va_P E.1 vwCl (wX4 E a m0) H → va_D A (wX4 E a m0) → va_S A s.heap H locs → lv_has ls 4 [(0, .ref (a 0)), (1, .int p1), (2, .int p2), (3, .int p3)] → W p l e (rmk 2 45) s m [.ref (a 0), .int p1, .int p2, .int p3].toArray below meth c H locs 0 0 (MQ below (Qct E A (wX4 E a m0') (some (.int r))) [.ref (a 0), .int p1, .int p2, .int p3].toArray s 0 0 A) (F0 m 56 ls [.int x21, .ref (a 0)]) := by
            intro H locs ls hP hD hS hl
            refine lv_iload_n hx hb dX4_play_56 rfl (lv_at hl 1 rfl) ?_
            refine lv_iadd hx hb dX4_play_57 ?_
            refine lv_iload_n hx hb dX4_play_58 rfl (lv_at hl 3 rfl) ?_
            obtain ⟨r25, m26, hc24, hf⟩ := bd2_some hf
            refine cV (X := List.take 0 (wX4 E a m0)) (Y := List.drop 12 (wX4 E a m0)) (w := (wX4 E a m0)) (w' := (wX4 E a m26)) (q0 := 0) lk_X4_95 hx hb hml hown hE hA (c_X4_becomes l E a m0 (x21 + p1) p3 r25 m26 hc24) rfl rfl hP hD hS rfl rfl ⟨rfl, rfl, Nat.le_of_ble_eq_true rfl, Nat.le_of_ble_eq_true rfl⟩ hl.1 (As := [.int (x21 + p1), .int p3]) (rest := []) rfl rfl (Nat.le_of_ble_eq_true rfl) ⟨Nat.zero_le _, Nat.zero_le _⟩ dX4_play_59 (fun H locs hP hD hS => ?_)
            refine W.eq (g2 := F0 m 62 ls [.int r25]) rfl ?_
            obtain ⟨rfl, rfl⟩ := so2 hf
            exact rt_i hx hb hr hlocks hP hD hS dX4_play_62
          refine lv_if_ne (tgt := 54) hx hb dX4_play_47 (by decide) (fun c20 => ?_) (fun c20 => ?_)
          · have hq23 := ien c20 hq23
            refine lv_bipush (v := (19 : Int32)) hx hb dX4_play_54 (by decide) ?_
            obtain rfl := pj1 hq23
            exact J22 _ _ _ hP hD hS (lv_sub hl [0, 1, 2, 3] rfl)
          · have hq23 := ie c20 hq23
            refine lv_iconst (v := (3 : Int32)) hx hb dX4_play_50 (by decide) ?_
            refine lv_goto (tgt := 56) hx hb dX4_play_51 (by decide) ?_
            obtain rfl := pj1 hq23
            exact J22 _ _ _ hP hD hS (lv_sub hl [0, 1, 2, 3] rfl)
        · have hf := ip c19 hf
          refine lv_aload_n hx hb dX4_play_39 rfl (lv_at hl 0 rfl) ?_
          refine lv_iconst (v := (0 : Int32)) hx hb dX4_play_40 (by decide) ?_
          obtain ⟨r28, m29, hc27, hf⟩ := bd2_some hf
          refine cV (X := List.take 0 (wX4 E a m0)) (Y := List.drop 12 (wX4 E a m0)) (w := (wX4 E a m0)) (w' := (wX4 E a m29)) (q0 := 0) lk_X4_92 hx hb hml hown hE hA (c_X4_finds l E a m0 (0 : Int32) r28 m29 hc27) rfl rfl hP hD hS rfl rfl ⟨rfl, rfl, Nat.le_of_ble_eq_true rfl, Nat.le_of_ble_eq_true rfl⟩ hl.1 (As := [.int (0 : Int32)]) (rest := []) rfl rfl (Nat.le_of_ble_eq_true rfl) ⟨Nat.zero_le _, Nat.zero_le _⟩ dX4_play_41 (fun H locs hP hD hS => ?_)
          refine W.eq (g2 := F0 m 44 ls [.int r28]) rfl ?_
          obtain ⟨rfl, rfl⟩ := so2 hf
          exact rt_i hx hb hr hlocks hP hD hS dX4_play_44
      refine lv_if_ne (tgt := 30) hx hb dX4_play_21 (by decide) (fun c13 => ?_) (fun c13 => ?_)
      · have hq16 := ien c13 hq16
        refine lv_ldc2 (v := (20 : Int64)) hx hb hown (hE.w tw_665) dX4_play_30 ?_
        obtain rfl := pj1 hq16
        exact J15 _ _ _ hP hD hS (lv_sub hl [0, 1, 2, 3] rfl)
      · have hq16 := ie c13 hq16
        refine lv_ldc2 (v := (4 : Int64)) hx hb hown (hE.w tw_664) dX4_play_24 ?_
        refine lv_goto (tgt := 33) hx hb dX4_play_27 (by decide) ?_
        obtain rfl := pj1 hq16
        exact J15 _ _ _ hP hD hS (lv_sub hl [0, 1, 2, 3] rfl)
def lp_X4_doers_8 (m0 : MS) (p1 : Int32) (p2 : Int32) : Nat → (Int32) → (Int32) → (Int32) → Option (Int32)
  | 0, _, _, _ => none
  | k_1 + 1, v5_1, v4_1, v3_1 => gd (0 : Int32) 67 (if ((g4_d m0) (0 : Int32).toNatClampNeg) ≤ v5_1 then if p2 = 0 then some (v4_1) else some (v3_1) else bd1 (f_X4_doesNow m0 v5_1) (fun r6 => jn1 (if r6 = p1 then ((1 : Int32)) else ((0 : Int32))) (fun x8 => jn1 (if x8 = 0 then ((0 : Int32)) else (((1 : Int32) <<< (v5_1 &&& 31)))) (fun x12 => jn1 (if x8 = 0 then ((0 : Int32)) else ((1 : Int32))) (fun x16 => lp_X4_doers_8 m0 p1 p2 k_1 (v5_1 + (1 : Int32)) (v4_1 + x16) (v3_1 ||| x12))))))
def f_X4_doers (m0 : MS) (p1 : Int32) (p2 : Int32) : Option (Int32) := lp_X4_doers_8 m0 p1 p2 FU (0 : Int32) (0 : Int32) (0 : Int32)
set_option maxHeartbeats 4000000 in
set_option maxRecDepth 100000 in
theorem c_X4_doers (l : Launch) (E : EV) (a : Nat → Nat) (m0 : MS) (p1 : Int32) (p2 : Int32)  (r : Int32) (hf : f_X4_doers m0 p1 p2 = some r) : Ct l E yX4_doers cX4_doers 7 ((Option.some FieldType.int)) (rmk 4 93) [.ref (a 0), .int p1, .int p2] (wX4 E a m0) (wX4 E a m0) (some (.int r)) := by
  refine Ct.of (by decide) (Nat.le_of_ble_eq_true rfl) ?_
  intro p e s m below meth c A ls hC hP hD hl
  obtain ⟨hx, hb, hr, hml, hown, hlocks, hE, hA⟩ := hC
  have hts : ∀ w ∈ tbl, w.before [.ref (a 0), .int p1, .int p2].toArray s = true := fun w hw => hE.w hw
  have hS : va_S A s.heap s.heap [] := va_S.rf
  have hl : lv_has ls 7 [(0, .ref (a 0)), (1, .int p1), (2, .int p2)] := hl
  unfold f_X4_doers at hf
  refine lv_iconst (v := (0 : Int32)) hx hb dX4_doers_0 (by decide) ?_
  refine lv_istore_n (lv' := [(3, .int (0 : Int32)), (0, .ref (a 0)), (1, .int p1), (2, .int p2)]) hx hb dX4_doers_1 rfl hl (by decide) rfl (fun ls hl => ?_)
  refine lv_iconst (v := (0 : Int32)) hx hb dX4_doers_2 (by decide) ?_
  refine lv_istore (lv' := [(4, .int (0 : Int32)), (3, .int (0 : Int32)), (0, .ref (a 0)), (1, .int p1), (2, .int p2)]) hx hb dX4_doers_3 hl (by decide) rfl (fun ls hl => ?_)
  refine lv_iconst (v := (0 : Int32)) hx hb dX4_doers_5 (by decide) ?_
  refine lv_istore (lv' := [(5, .int (0 : Int32)), (4, .int (0 : Int32)), (3, .int (0 : Int32)), (0, .ref (a 0)), (1, .int p1), (2, .int p2)]) hx hb dX4_doers_6 hl (by decide) rfl (fun ls hl => ?_)
  have L_1 : ∀ (k_1 : Nat) (v5_1 : Int32) (v4_1 : Int32) (v3_1 : Int32), lp_X4_doers_8 m0 p1 p2 k_1 v5_1 v4_1 v3_1 = some r → ∀ (H : Heap) (locs : List Loc) (ls : Array Slot), va_P E.1 vwCl (wX4 E a m0) H → va_D A (wX4 E a m0) → va_S A s.heap H locs → lv_has ls 7 [(5, .int v5_1), (4, .int v4_1), (3, .int v3_1), (0, .ref (a 0)), (1, .int p1), (2, .int p2)] → W p l e (rmk 4 93) s m [.ref (a 0), .int p1, .int p2].toArray below meth c H locs 0 0 (MQ below (Qct E A (wX4 E a m0) (some (.int r))) [.ref (a 0), .int p1, .int p2].toArray s 0 0 A) (F0 m 8 ls []) := by
    intro k_1
    induction k_1 with
    | zero =>
      intro v5_1 v4_1 v3_1 hf
      rw [lp_X4_doers_8] at hf
      cases hf
    | succ k_1 ih_1 =>
      intro v5_1 v4_1 v3_1 hf H locs ls hP hD hS hl
      rw [lp_X4_doers_8] at hf
      refine lv_iload hx hb dX4_doers_8 (lv_at hl 0 rfl) ?_
      refine lv_aload_n hx hb dX4_doers_10 rfl (lv_at hl 3 rfl) ?_
      refine va_get (D := E.1) (ci := 4) (v := .ref (a 1)) (C := RX4) (T := TX4) (N := 18) hx hb hts inX4 hown hE.2.1 hP 0 rfl rfl 0 (by decide) (hE.w tw_598) (fun _ h9 => h9) rfl dX4_doers_11 ?_
      refine lv_iconst (v := (0 : Int32)) hx hb dX4_doers_14 (by decide) ?_
      obtain ⟨hg2, hf⟩ := gd_some hf
      refine va_iald hx hb hE.2.1 hP 1 0 rfl rfl hg2 dX4_doers_15 ?_
      refine lv_icmp_ge (tgt := 73) hx hb dX4_doers_16 (by decide) (fun c3 => ?_) (fun c3 => ?_)
      · have hf := ip c3 hf
        refine lv_iload_n hx hb dX4_doers_73 rfl (lv_at hl 5 rfl) ?_
        refine lv_if_eq (tgt := 81) hx hb dX4_doers_74 (by decide) (fun c4 => ?_) (fun c4 => ?_)
        · have hf := ip c4 hf
          refine lv_iload hx hb dX4_doers_81 (lv_at hl 1 rfl) ?_
          obtain rfl := so1 hf
          exact rt_i hx hb hr hlocks hP hD hS dX4_doers_83
        · have hf := im c4 hf
          refine lv_iload_n hx hb dX4_doers_77 rfl (lv_at hl 2 rfl) ?_
          refine lv_goto (tgt := 83) hx hb dX4_doers_78 (by decide) ?_
          obtain rfl := so1 hf
          exact rt_i hx hb hr hlocks hP hD hS dX4_doers_83
      · have hf := im c3 hf
        refine lv_aload_n hx hb dX4_doers_19 rfl (lv_at hl 3 rfl) ?_
        refine lv_iload hx hb dX4_doers_20 (lv_at hl 0 rfl) ?_
        obtain ⟨r6, hc5, hf⟩ := bd1_some hf
        refine cV (X := List.take 0 (wX4 E a m0)) (Y := List.drop 12 (wX4 E a m0)) (w := (wX4 E a m0)) (w' := (wX4 E a m0)) (q0 := 0) lk_X4_66 hx hb hml hown hE hA (c_X4_doesNow l E a m0 v5_1 r6 hc5) rfl rfl hP hD hS rfl rfl ⟨rfl, rfl, Nat.le_of_ble_eq_true rfl, Nat.le_of_ble_eq_true rfl⟩ hl.1 (As := [.int v5_1]) (rest := []) rfl rfl (Nat.le_of_ble_eq_true rfl) ⟨Nat.zero_le _, Nat.zero_le _⟩ dX4_doers_22 (fun H locs hP hD hS => ?_)
        refine W.eq (g2 := F0 m 25 ls [.int r6]) rfl ?_
        refine lv_iload_n hx hb dX4_doers_25 rfl (lv_at hl 4 rfl) ?_
        obtain ⟨x8, hq10, hf⟩ := jn1_some hf
        have J9 : ∀ (H : Heap) (locs : List Loc) (ls : Array Slot), va_P E.1 vwCl (wX4 E a m0) H → va_D A (wX4 E a m0) → va_S A s.heap H locs → lv_has ls 7 [(5, .int v5_1), (4, .int v4_1), (3, .int v3_1), (0, .ref (a 0)), (1, .int p1), (2, .int p2)] → W p l e (rmk 4 93) s m [.ref (a 0), .int p1, .int p2].toArray below meth c H locs 0 0 (MQ below (Qct E A (wX4 E a m0) (some (.int r))) [.ref (a 0), .int p1, .int p2].toArray s 0 0 A) (F0 m 34 ls [.int x8]) := by
          intro H locs ls hP hD hS hl
          refine lv_istore (lv' := [(6, .int x8), (5, .int v5_1), (4, .int v4_1), (3, .int v3_1), (0, .ref (a 0)), (1, .int p1), (2, .int p2)]) hx hb dX4_doers_34 hl (by decide) rfl (fun ls hl => ?_)
          refine lv_iload_n hx hb dX4_doers_36 rfl (lv_at hl 3 rfl) ?_
          refine lv_iload hx hb dX4_doers_37 (lv_at hl 0 rfl) ?_
          obtain ⟨x12, hq14, hf⟩ := jn1_some hf
          have J13 : ∀ (H : Heap) (locs : List Loc) (ls : Array Slot), va_P E.1 vwCl (wX4 E a m0) H → va_D A (wX4 E a m0) → va_S A s.heap H locs → lv_has ls 7 [(6, .int x8), (5, .int v5_1), (4, .int v4_1), (3, .int v3_1), (0, .ref (a 0)), (1, .int p1), (2, .int p2)] → W p l e (rmk 4 93) s m [.ref (a 0), .int p1, .int p2].toArray below meth c H locs 0 0 (MQ below (Qct E A (wX4 E a m0) (some (.int r))) [.ref (a 0), .int p1, .int p2].toArray s 0 0 A) (F0 m 50 ls [.int x12, .int v3_1]) := by
            intro H locs ls hP hD hS hl
            refine lv_ior hx hb dX4_doers_50 ?_
            refine lv_istore_n (lv' := [(3, .int (v3_1 ||| x12)), (6, .int x8), (5, .int v5_1), (4, .int v4_1), (0, .ref (a 0)), (1, .int p1), (2, .int p2)]) hx hb dX4_doers_51 rfl hl (by decide) rfl (fun ls hl => ?_)
            refine lv_iload hx hb dX4_doers_52 (lv_at hl 3 rfl) ?_
            refine lv_iload hx hb dX4_doers_54 (lv_at hl 1 rfl) ?_
            obtain ⟨x16, hq18, hf⟩ := jn1_some hf
            have J17 : ∀ (H : Heap) (locs : List Loc) (ls : Array Slot), va_P E.1 vwCl (wX4 E a m0) H → va_D A (wX4 E a m0) → va_S A s.heap H locs → lv_has ls 7 [(3, .int (v3_1 ||| x12)), (6, .int x8), (5, .int v5_1), (4, .int v4_1), (0, .ref (a 0)), (1, .int p1), (2, .int p2)] → W p l e (rmk 4 93) s m [.ref (a 0), .int p1, .int p2].toArray below meth c H locs 0 0 (MQ below (Qct E A (wX4 E a m0) (some (.int r))) [.ref (a 0), .int p1, .int p2].toArray s 0 0 A) (F0 m 64 ls [.int x16, .int v4_1]) := by
              intro H locs ls hP hD hS hl
              refine lv_iadd hx hb dX4_doers_64 ?_
              refine lv_istore (lv' := [(4, .int (v4_1 + x16)), (3, .int (v3_1 ||| x12)), (6, .int x8), (5, .int v5_1), (0, .ref (a 0)), (1, .int p1), (2, .int p2)]) hx hb dX4_doers_65 hl (by decide) rfl (fun ls hl => ?_)
              refine lv_iinc (v := (v5_1 + (1 : Int32))) (lv' := [(5, .int (v5_1 + (1 : Int32))), (4, .int (v4_1 + x16)), (3, .int (v3_1 ||| x12)), (6, .int x8), (0, .ref (a 0)), (1, .int p1), (2, .int p2)]) hx hb dX4_doers_67 hl (k := 3) rfl rfl (by decide) rfl (fun ls hl => ?_)
              refine lv_goto (tgt := 8) hx hb dX4_doers_70 (by decide) ?_
              exact ih_1 _ _ _ hf _ _ _ hP hD hS (lv_sub hl [0, 1, 2, 4, 5, 6] rfl)
            refine lv_if_eq (tgt := 63) hx hb dX4_doers_56 (by decide) (fun c15 => ?_) (fun c15 => ?_)
            · have hq18 := ie c15 hq18
              refine lv_iconst (v := (0 : Int32)) hx hb dX4_doers_63 (by decide) ?_
              obtain rfl := pj1 hq18
              exact J17 _ _ _ hP hD hS (lv_sub hl [0, 1, 2, 3, 4, 5, 6] rfl)
            · have hq18 := ien c15 hq18
              refine lv_iconst (v := (1 : Int32)) hx hb dX4_doers_59 (by decide) ?_
              refine lv_goto (tgt := 64) hx hb dX4_doers_60 (by decide) ?_
              obtain rfl := pj1 hq18
              exact J17 _ _ _ hP hD hS (lv_sub hl [0, 1, 2, 3, 4, 5, 6] rfl)
          refine lv_if_eq (tgt := 49) hx hb dX4_doers_39 (by decide) (fun c11 => ?_) (fun c11 => ?_)
          · have hq14 := ie c11 hq14
            refine lv_iconst (v := (0 : Int32)) hx hb dX4_doers_49 (by decide) ?_
            obtain rfl := pj1 hq14
            exact J13 _ _ _ hP hD hS (lv_sub hl [0, 1, 2, 3, 4, 5, 6] rfl)
          · have hq14 := ien c11 hq14
            refine lv_iconst (v := (1 : Int32)) hx hb dX4_doers_42 (by decide) ?_
            refine lv_iload hx hb dX4_doers_43 (lv_at hl 1 rfl) ?_
            refine lv_ishl hx hb dX4_doers_45 ?_
            refine lv_goto (tgt := 50) hx hb dX4_doers_46 (by decide) ?_
            obtain rfl := pj1 hq14
            exact J13 _ _ _ hP hD hS (lv_sub hl [0, 1, 2, 3, 4, 5, 6] rfl)
        refine lv_icmp_ne (tgt := 33) hx hb dX4_doers_26 (by decide) (fun c7 => ?_) (fun c7 => ?_)
        · have hq10 := ien c7 hq10
          refine lv_iconst (v := (0 : Int32)) hx hb dX4_doers_33 (by decide) ?_
          obtain rfl := pj1 hq10
          exact J9 _ _ _ hP hD hS (lv_sub hl [0, 1, 2, 3, 4, 5] rfl)
        · have hq10 := ie c7 hq10
          refine lv_iconst (v := (1 : Int32)) hx hb dX4_doers_29 (by decide) ?_
          refine lv_goto (tgt := 34) hx hb dX4_doers_30 (by decide) ?_
          obtain rfl := pj1 hq10
          exact J9 _ _ _ hP hD hS (lv_sub hl [0, 1, 2, 3, 4, 5] rfl)
  exact L_1 _ _ _ _ hf _ _ _ hP hD hS (lv_sub hl [0, 1, 2, 3, 4, 5] rfl)
def f_X4_now (m0 : MS) (p1 : Int32) : Option (Int32 × MS) := if p1 = (0 : Int32) then gd (1 : Int32) 67 (some (((g4_d m0) (1 : Int32).toNatClampNeg), m0)) else if p1 = (1 : Int32) then gd (2 : Int32) 67 (some (((g4_d m0) (2 : Int32).toNatClampNeg), m0)) else if p1 = (2 : Int32) then gd (2 : Int32) 67 (gd ((3 : Int32) + ((g4_d m0) (2 : Int32).toNatClampNeg)) 67 (some (((g4_d m0) ((3 : Int32) + ((g4_d m0) (2 : Int32).toNatClampNeg)).toNatClampNeg), m0))) else if p1 = (3 : Int32) then gd (2 : Int32) 67 (gd ((19 : Int32) + ((g4_d m0) (2 : Int32).toNatClampNeg)) 67 (some (((g4_d m0) ((19 : Int32) + ((g4_d m0) (2 : Int32).toNatClampNeg)).toNatClampNeg), m0))) else if p1 = (4 : Int32) then bd1 (f_X4_sumOf m0 (2 : Int32)) (fun r13 => some (((10000 : Int32) + r13), m0)) else if p1 = (5 : Int32) then gd (2 : Int32) 67 (gd ((3 : Int32) + ((g4_d m0) (2 : Int32).toNatClampNeg)) 67 (bd1 (f_X4_doers m0 ((g4_d m0) ((3 : Int32) + ((g4_d m0) (2 : Int32).toNatClampNeg)).toNatClampNeg) (1 : Int32)) (fun r18 => some (r18, m0)))) else if p1 = (6 : Int32) then bd1 (f_X4_sumOf m0 (1 : Int32)) (fun r21 => some (r21, m0)) else bd2 (f_X4_finds m0 (0 : Int32)) (fun r23 m24 => some (r23, m24))
set_option maxHeartbeats 4000000 in
set_option maxRecDepth 100000 in
theorem c_X4_now (l : Launch) (E : EV) (a : Nat → Nat) (m0 : MS) (p1 : Int32)  (r : Int32) (m0' : MS) (hf : f_X4_now m0 p1 = some (r, m0')) : Ct l E yX4_now cX4_now 2 ((Option.some FieldType.int)) (rmk 5 119) [.ref (a 0), .int p1] (wX4 E a m0) (wX4 E a m0') (some (.int r)) := by
  refine Ct.of (by decide) (Nat.le_of_ble_eq_true rfl) ?_
  intro p e s m below meth c A ls hC hP hD hl
  obtain ⟨hx, hb, hr, hml, hown, hlocks, hE, hA⟩ := hC
  have hts : ∀ w ∈ tbl, w.before [.ref (a 0), .int p1].toArray s = true := fun w hw => hE.w hw
  have hS : va_S A s.heap s.heap [] := va_S.rf
  have hl : lv_has ls 2 [(0, .ref (a 0)), (1, .int p1)] := hl
  unfold f_X4_now at hf
  refine lv_iload_n hx hb dX4_now_0 rfl (lv_at hl 1 rfl) ?_
  by_cases c1 : p1 = (0 : Int32)
  · have hf := ip c1 hf
    refine lv_tableIn (off := 43) (tgt := 44) hx hb dX4_now_1 (by rw [c1]; decide) (by rw [c1]; decide) (by rw [c1]; rfl) (by decide) ?_
    refine lv_aload_n hx hb dX4_now_44 rfl (lv_at hl 0 rfl) ?_
    refine va_get (D := E.1) (ci := 4) (v := .ref (a 1)) (C := RX4) (T := TX4) (N := 18) hx hb hts inX4 hown hE.2.1 hP 0 rfl rfl 0 (by decide) (hE.w tw_598) (fun _ h9 => h9) rfl dX4_now_45 ?_
    refine lv_iconst (v := (1 : Int32)) hx hb dX4_now_48 (by decide) ?_
    obtain ⟨hg2, hf⟩ := gd_some hf
    refine va_iald hx hb hE.2.1 hP 1 0 rfl rfl hg2 dX4_now_49 ?_
    obtain ⟨rfl, rfl⟩ := so2 hf
    exact rt_i hx hb hr hlocks hP hD hS dX4_now_50
  have hf := im c1 hf
  by_cases c3 : p1 = (1 : Int32)
  · have hf := ip c3 hf
    refine lv_tableIn (off := 50) (tgt := 51) hx hb dX4_now_1 (by rw [c3]; decide) (by rw [c3]; decide) (by rw [c3]; rfl) (by decide) ?_
    refine lv_aload_n hx hb dX4_now_51 rfl (lv_at hl 0 rfl) ?_
    refine va_get (D := E.1) (ci := 4) (v := .ref (a 1)) (C := RX4) (T := TX4) (N := 18) hx hb hts inX4 hown hE.2.1 hP 0 rfl rfl 0 (by decide) (hE.w tw_598) (fun _ h9 => h9) rfl dX4_now_52 ?_
    refine lv_iconst (v := (2 : Int32)) hx hb dX4_now_55 (by decide) ?_
    obtain ⟨hg4, hf⟩ := gd_some hf
    refine va_iald hx hb hE.2.1 hP 1 0 rfl rfl hg4 dX4_now_56 ?_
    obtain ⟨rfl, rfl⟩ := so2 hf
    exact rt_i hx hb hr hlocks hP hD hS dX4_now_57
  have hf := im c3 hf
  by_cases c5 : p1 = (2 : Int32)
  · have hf := ip c5 hf
    refine lv_tableIn (off := 57) (tgt := 58) hx hb dX4_now_1 (by rw [c5]; decide) (by rw [c5]; decide) (by rw [c5]; rfl) (by decide) ?_
    refine lv_aload_n hx hb dX4_now_58 rfl (lv_at hl 0 rfl) ?_
    refine va_get (D := E.1) (ci := 4) (v := .ref (a 1)) (C := RX4) (T := TX4) (N := 18) hx hb hts inX4 hown hE.2.1 hP 0 rfl rfl 0 (by decide) (hE.w tw_598) (fun _ h9 => h9) rfl dX4_now_59 ?_
    refine lv_iconst (v := (3 : Int32)) hx hb dX4_now_62 (by decide) ?_
    refine lv_aload_n hx hb dX4_now_63 rfl (lv_at hl 0 rfl) ?_
    refine va_get (D := E.1) (ci := 4) (v := .ref (a 1)) (C := RX4) (T := TX4) (N := 18) hx hb hts inX4 hown hE.2.1 hP 0 rfl rfl 0 (by decide) (hE.w tw_598) (fun _ h9 => h9) rfl dX4_now_64 ?_
    refine lv_iconst (v := (2 : Int32)) hx hb dX4_now_67 (by decide) ?_
    obtain ⟨hg6, hf⟩ := gd_some hf
    refine va_iald hx hb hE.2.1 hP 1 0 rfl rfl hg6 dX4_now_68 ?_
    refine lv_iadd hx hb dX4_now_69 ?_
    obtain ⟨hg7, hf⟩ := gd_some hf
    refine va_iald hx hb hE.2.1 hP 1 0 rfl rfl hg7 dX4_now_70 ?_
    obtain ⟨rfl, rfl⟩ := so2 hf
    exact rt_i hx hb hr hlocks hP hD hS dX4_now_71
  have hf := im c5 hf
  by_cases c8 : p1 = (3 : Int32)
  · have hf := ip c8 hf
    refine lv_tableIn (off := 71) (tgt := 72) hx hb dX4_now_1 (by rw [c8]; decide) (by rw [c8]; decide) (by rw [c8]; rfl) (by decide) ?_
    refine lv_aload_n hx hb dX4_now_72 rfl (lv_at hl 0 rfl) ?_
    refine va_get (D := E.1) (ci := 4) (v := .ref (a 1)) (C := RX4) (T := TX4) (N := 18) hx hb hts inX4 hown hE.2.1 hP 0 rfl rfl 0 (by decide) (hE.w tw_598) (fun _ h9 => h9) rfl dX4_now_73 ?_
    refine lv_bipush (v := (19 : Int32)) hx hb dX4_now_76 (by decide) ?_
    refine lv_aload_n hx hb dX4_now_78 rfl (lv_at hl 0 rfl) ?_
    refine va_get (D := E.1) (ci := 4) (v := .ref (a 1)) (C := RX4) (T := TX4) (N := 18) hx hb hts inX4 hown hE.2.1 hP 0 rfl rfl 0 (by decide) (hE.w tw_598) (fun _ h9 => h9) rfl dX4_now_79 ?_
    refine lv_iconst (v := (2 : Int32)) hx hb dX4_now_82 (by decide) ?_
    obtain ⟨hg9, hf⟩ := gd_some hf
    refine va_iald hx hb hE.2.1 hP 1 0 rfl rfl hg9 dX4_now_83 ?_
    refine lv_iadd hx hb dX4_now_84 ?_
    obtain ⟨hg10, hf⟩ := gd_some hf
    refine va_iald hx hb hE.2.1 hP 1 0 rfl rfl hg10 dX4_now_85 ?_
    obtain ⟨rfl, rfl⟩ := so2 hf
    exact rt_i hx hb hr hlocks hP hD hS dX4_now_86
  have hf := im c8 hf
  by_cases c11 : p1 = (4 : Int32)
  · have hf := ip c11 hf
    refine lv_tableIn (off := 86) (tgt := 87) hx hb dX4_now_1 (by rw [c11]; decide) (by rw [c11]; decide) (by rw [c11]; rfl) (by decide) ?_
    refine lv_sipush (v := (10000 : Int32)) hx hb dX4_now_87 (by decide) ?_
    refine lv_aload_n hx hb dX4_now_90 rfl (lv_at hl 0 rfl) ?_
    refine lv_iconst (v := (2 : Int32)) hx hb dX4_now_91 (by decide) ?_
    obtain ⟨r13, hc12, hf⟩ := bd1_some hf
    refine cV (X := List.take 0 (wX4 E a m0)) (Y := List.drop 12 (wX4 E a m0)) (w := (wX4 E a m0)) (w' := (wX4 E a m0)) (q0 := 0) lk_X4_98 hx hb hml hown hE hA (c_X4_sumOf l E a m0 (2 : Int32) r13 hc12) rfl rfl hP hD hS rfl rfl ⟨rfl, rfl, Nat.le_of_ble_eq_true rfl, Nat.le_of_ble_eq_true rfl⟩ hl.1 (As := [.int (2 : Int32)]) (rest := [.int (10000 : Int32)]) rfl rfl (Nat.le_of_ble_eq_true rfl) ⟨Nat.zero_le _, Nat.zero_le _⟩ dX4_now_92 (fun H locs hP hD hS => ?_)
    refine W.eq (g2 := F0 m 95 ls [.int r13, .int (10000 : Int32)]) rfl ?_
    refine lv_iadd hx hb dX4_now_95 ?_
    obtain ⟨rfl, rfl⟩ := so2 hf
    exact rt_i hx hb hr hlocks hP hD hS dX4_now_96
  have hf := im c11 hf
  by_cases c14 : p1 = (5 : Int32)
  · have hf := ip c14 hf
    refine lv_tableIn (off := 96) (tgt := 97) hx hb dX4_now_1 (by rw [c14]; decide) (by rw [c14]; decide) (by rw [c14]; rfl) (by decide) ?_
    refine lv_aload_n hx hb dX4_now_97 rfl (lv_at hl 0 rfl) ?_
    refine lv_aload_n hx hb dX4_now_98 rfl (lv_at hl 0 rfl) ?_
    refine va_get (D := E.1) (ci := 4) (v := .ref (a 1)) (C := RX4) (T := TX4) (N := 18) hx hb hts inX4 hown hE.2.1 hP 0 rfl rfl 0 (by decide) (hE.w tw_598) (fun _ h9 => h9) rfl dX4_now_99 ?_
    refine lv_iconst (v := (3 : Int32)) hx hb dX4_now_102 (by decide) ?_
    refine lv_aload_n hx hb dX4_now_103 rfl (lv_at hl 0 rfl) ?_
    refine va_get (D := E.1) (ci := 4) (v := .ref (a 1)) (C := RX4) (T := TX4) (N := 18) hx hb hts inX4 hown hE.2.1 hP 0 rfl rfl 0 (by decide) (hE.w tw_598) (fun _ h9 => h9) rfl dX4_now_104 ?_
    refine lv_iconst (v := (2 : Int32)) hx hb dX4_now_107 (by decide) ?_
    obtain ⟨hg15, hf⟩ := gd_some hf
    refine va_iald hx hb hE.2.1 hP 1 0 rfl rfl hg15 dX4_now_108 ?_
    refine lv_iadd hx hb dX4_now_109 ?_
    obtain ⟨hg16, hf⟩ := gd_some hf
    refine va_iald hx hb hE.2.1 hP 1 0 rfl rfl hg16 dX4_now_110 ?_
    refine lv_iconst (v := (1 : Int32)) hx hb dX4_now_111 (by decide) ?_
    obtain ⟨r18, hc17, hf⟩ := bd1_some hf
    refine cV (X := List.take 0 (wX4 E a m0)) (Y := List.drop 12 (wX4 E a m0)) (w := (wX4 E a m0)) (w' := (wX4 E a m0)) (q0 := 0) lk_X4_101 hx hb hml hown hE hA (c_X4_doers l E a m0 ((g4_d m0) ((3 : Int32) + ((g4_d m0) (2 : Int32).toNatClampNeg)).toNatClampNeg) (1 : Int32) r18 hc17) rfl rfl hP hD hS rfl rfl ⟨rfl, rfl, Nat.le_of_ble_eq_true rfl, Nat.le_of_ble_eq_true rfl⟩ hl.1 (As := [.int ((g4_d m0) ((3 : Int32) + ((g4_d m0) (2 : Int32).toNatClampNeg)).toNatClampNeg), .int (1 : Int32)]) (rest := []) rfl rfl (Nat.le_of_ble_eq_true rfl) ⟨Nat.zero_le _, Nat.zero_le _⟩ dX4_now_112 (fun H locs hP hD hS => ?_)
    refine W.eq (g2 := F0 m 115 ls [.int r18]) rfl ?_
    obtain ⟨rfl, rfl⟩ := so2 hf
    exact rt_i hx hb hr hlocks hP hD hS dX4_now_115
  have hf := im c14 hf
  by_cases c19 : p1 = (6 : Int32)
  · have hf := ip c19 hf
    refine lv_tableIn (off := 115) (tgt := 116) hx hb dX4_now_1 (by rw [c19]; decide) (by rw [c19]; decide) (by rw [c19]; rfl) (by decide) ?_
    refine lv_aload_n hx hb dX4_now_116 rfl (lv_at hl 0 rfl) ?_
    refine lv_iconst (v := (1 : Int32)) hx hb dX4_now_117 (by decide) ?_
    obtain ⟨r21, hc20, hf⟩ := bd1_some hf
    refine cV (X := List.take 0 (wX4 E a m0)) (Y := List.drop 12 (wX4 E a m0)) (w := (wX4 E a m0)) (w' := (wX4 E a m0)) (q0 := 0) lk_X4_98 hx hb hml hown hE hA (c_X4_sumOf l E a m0 (1 : Int32) r21 hc20) rfl rfl hP hD hS rfl rfl ⟨rfl, rfl, Nat.le_of_ble_eq_true rfl, Nat.le_of_ble_eq_true rfl⟩ hl.1 (As := [.int (1 : Int32)]) (rest := []) rfl rfl (Nat.le_of_ble_eq_true rfl) ⟨Nat.zero_le _, Nat.zero_le _⟩ dX4_now_118 (fun H locs hP hD hS => ?_)
    refine W.eq (g2 := F0 m 121 ls [.int r21]) rfl ?_
    obtain ⟨rfl, rfl⟩ := so2 hf
    exact rt_i hx hb hr hlocks hP hD hS dX4_now_121
  have hf := im c19 hf
  refine lv_tableOut (tgt := 122) hx hb dX4_now_1 (by have zc1 := lv_neT c1 (a := 0) (by decide); have zc3 := lv_neT c3 (a := 1) (by decide); have zc5 := lv_neT c5 (a := 2) (by decide); have zc8 := lv_neT c8 (a := 3) (by decide); have zc11 := lv_neT c11 (a := 4) (by decide); have zc14 := lv_neT c14 (a := 5) (by decide); have zc19 := lv_neT c19 (a := 6) (by decide); omega) (by decide) ?_
  refine lv_aload_n hx hb dX4_now_122 rfl (lv_at hl 0 rfl) ?_
  refine lv_iconst (v := (0 : Int32)) hx hb dX4_now_123 (by decide) ?_
  obtain ⟨r23, m24, hc22, hf⟩ := bd2_some hf
  refine cV (X := List.take 0 (wX4 E a m0)) (Y := List.drop 12 (wX4 E a m0)) (w := (wX4 E a m0)) (w' := (wX4 E a m24)) (q0 := 0) lk_X4_92 hx hb hml hown hE hA (c_X4_finds l E a m0 (0 : Int32) r23 m24 hc22) rfl rfl hP hD hS rfl rfl ⟨rfl, rfl, Nat.le_of_ble_eq_true rfl, Nat.le_of_ble_eq_true rfl⟩ hl.1 (As := [.int (0 : Int32)]) (rest := []) rfl rfl (Nat.le_of_ble_eq_true rfl) ⟨Nat.zero_le _, Nat.zero_le _⟩ dX4_now_124 (fun H locs hP hD hS => ?_)
  refine W.eq (g2 := F0 m 127 ls [.int r23]) rfl ?_
  obtain ⟨rfl, rfl⟩ := so2 hf
  exact rt_i hx hb hr hlocks hP hD hS dX4_now_127
def f_X4_comesIn (m0 : MS) (p1 : Int32) : Option (Int32 × MS) := gd (0 : Int32) 67 (bd1 (f_X4_sets m0 ((g4_d m0) (0 : Int32).toNatClampNeg) (0 : Int32) p1) (fun m3 => bd1 (f_X4_sets m3 ((g4_d m0) (0 : Int32).toNatClampNeg) (1 : Int32) (60 : Int32)) (fun m5 => bd1 (f_X4_sets m5 ((g4_d m0) (0 : Int32).toNatClampNeg) (2 : Int32) (0 : Int32)) (fun m7 => bd1 (f_X4_sets m7 ((g4_d m0) (0 : Int32).toNatClampNeg) (3 : Int32) (0 : Int32)) (fun m9 => gd (0 : Int32) 67 (gd (0 : Int32) 67 (jn1 (s4_d m9 (upd (g4_d m9) (0 : Int32).toNatClampNeg (((g4_d m9) (0 : Int32).toNatClampNeg) + (1 : Int32)))) (fun m_12 => some (((g4_d m0) (0 : Int32).toNatClampNeg), m_12)))))))))
set_option maxHeartbeats 4000000 in
set_option maxRecDepth 100000 in
theorem c_X4_comesIn (l : Launch) (E : EV) (a : Nat → Nat) (m0 : MS) (p1 : Int32)  (r : Int32) (m0' : MS) (hf : f_X4_comesIn m0 p1 = some (r, m0')) : Ct l E yX4_comesIn cX4_comesIn 3 ((Option.some FieldType.int)) (rmk 1 23) [.ref (a 0), .int p1] (wX4 E a m0) (wX4 E a m0') (some (.int r)) := by
  refine Ct.of (by decide) (Nat.le_of_ble_eq_true rfl) ?_
  intro p e s m below meth c A ls hC hP hD hl
  obtain ⟨hx, hb, hr, hml, hown, hlocks, hE, hA⟩ := hC
  have hts : ∀ w ∈ tbl, w.before [.ref (a 0), .int p1].toArray s = true := fun w hw => hE.w hw
  have hS : va_S A s.heap s.heap [] := va_S.rf
  have hl : lv_has ls 3 [(0, .ref (a 0)), (1, .int p1)] := hl
  unfold f_X4_comesIn at hf
  refine lv_aload_n hx hb dX4_comesIn_0 rfl (lv_at hl 0 rfl) ?_
  refine va_get (D := E.1) (ci := 4) (v := .ref (a 1)) (C := RX4) (T := TX4) (N := 18) hx hb hts inX4 hown hE.2.1 hP 0 rfl rfl 0 (by decide) (hE.w tw_598) (fun _ h9 => h9) rfl dX4_comesIn_1 ?_
  refine lv_iconst (v := (0 : Int32)) hx hb dX4_comesIn_4 (by decide) ?_
  obtain ⟨hg1, hf⟩ := gd_some hf
  refine va_iald hx hb hE.2.1 hP 1 0 rfl rfl hg1 dX4_comesIn_5 ?_
  refine lv_istore_n (lv' := [(2, .int ((g4_d m0) (0 : Int32).toNatClampNeg)), (0, .ref (a 0)), (1, .int p1)]) hx hb dX4_comesIn_6 rfl hl (by decide) rfl (fun ls hl => ?_)
  refine lv_aload_n hx hb dX4_comesIn_7 rfl (lv_at hl 1 rfl) ?_
  refine lv_iload_n hx hb dX4_comesIn_8 rfl (lv_at hl 0 rfl) ?_
  refine lv_iconst (v := (0 : Int32)) hx hb dX4_comesIn_9 (by decide) ?_
  refine lv_iload_n hx hb dX4_comesIn_10 rfl (lv_at hl 2 rfl) ?_
  obtain ⟨m3, hc2, hf⟩ := bd1_some hf
  refine cV (X := List.take 0 (wX4 E a m0)) (Y := List.drop 12 (wX4 E a m0)) (w := (wX4 E a m0)) (w' := (wX4 E a m3)) (q0 := 0) lk_X4_73 hx hb hml hown hE hA (c_X4_sets l E a m0 ((g4_d m0) (0 : Int32).toNatClampNeg) (0 : Int32) p1 m3 hc2) rfl rfl hP hD hS rfl rfl ⟨rfl, rfl, Nat.le_of_ble_eq_true rfl, Nat.le_of_ble_eq_true rfl⟩ hl.1 (As := [.int ((g4_d m0) (0 : Int32).toNatClampNeg), .int (0 : Int32), .int p1]) (rest := []) rfl rfl (Nat.le_of_ble_eq_true rfl) ⟨Nat.zero_le _, Nat.zero_le _⟩ dX4_comesIn_11 (fun H locs hP hD hS => ?_)
  refine W.eq (g2 := F0 m 14 ls []) rfl ?_
  refine lv_aload_n hx hb dX4_comesIn_14 rfl (lv_at hl 1 rfl) ?_
  refine lv_iload_n hx hb dX4_comesIn_15 rfl (lv_at hl 0 rfl) ?_
  refine lv_iconst (v := (1 : Int32)) hx hb dX4_comesIn_16 (by decide) ?_
  refine lv_bipush (v := (60 : Int32)) hx hb dX4_comesIn_17 (by decide) ?_
  obtain ⟨m5, hc4, hf⟩ := bd1_some hf
  refine cV (X := List.take 0 (wX4 E a m3)) (Y := List.drop 12 (wX4 E a m3)) (w := (wX4 E a m3)) (w' := (wX4 E a m5)) (q0 := 0) lk_X4_73 hx hb hml hown hE hA (c_X4_sets l E a m3 ((g4_d m0) (0 : Int32).toNatClampNeg) (1 : Int32) (60 : Int32) m5 hc4) rfl rfl hP hD hS rfl rfl ⟨rfl, rfl, Nat.le_of_ble_eq_true rfl, Nat.le_of_ble_eq_true rfl⟩ hl.1 (As := [.int ((g4_d m0) (0 : Int32).toNatClampNeg), .int (1 : Int32), .int (60 : Int32)]) (rest := []) rfl rfl (Nat.le_of_ble_eq_true rfl) ⟨Nat.zero_le _, Nat.zero_le _⟩ dX4_comesIn_19 (fun H locs hP hD hS => ?_)
  refine W.eq (g2 := F0 m 22 ls []) rfl ?_
  refine lv_aload_n hx hb dX4_comesIn_22 rfl (lv_at hl 1 rfl) ?_
  refine lv_iload_n hx hb dX4_comesIn_23 rfl (lv_at hl 0 rfl) ?_
  refine lv_iconst (v := (2 : Int32)) hx hb dX4_comesIn_24 (by decide) ?_
  refine lv_iconst (v := (0 : Int32)) hx hb dX4_comesIn_25 (by decide) ?_
  obtain ⟨m7, hc6, hf⟩ := bd1_some hf
  refine cV (X := List.take 0 (wX4 E a m5)) (Y := List.drop 12 (wX4 E a m5)) (w := (wX4 E a m5)) (w' := (wX4 E a m7)) (q0 := 0) lk_X4_73 hx hb hml hown hE hA (c_X4_sets l E a m5 ((g4_d m0) (0 : Int32).toNatClampNeg) (2 : Int32) (0 : Int32) m7 hc6) rfl rfl hP hD hS rfl rfl ⟨rfl, rfl, Nat.le_of_ble_eq_true rfl, Nat.le_of_ble_eq_true rfl⟩ hl.1 (As := [.int ((g4_d m0) (0 : Int32).toNatClampNeg), .int (2 : Int32), .int (0 : Int32)]) (rest := []) rfl rfl (Nat.le_of_ble_eq_true rfl) ⟨Nat.zero_le _, Nat.zero_le _⟩ dX4_comesIn_26 (fun H locs hP hD hS => ?_)
  refine W.eq (g2 := F0 m 29 ls []) rfl ?_
  refine lv_aload_n hx hb dX4_comesIn_29 rfl (lv_at hl 1 rfl) ?_
  refine lv_iload_n hx hb dX4_comesIn_30 rfl (lv_at hl 0 rfl) ?_
  refine lv_iconst (v := (3 : Int32)) hx hb dX4_comesIn_31 (by decide) ?_
  refine lv_iconst (v := (0 : Int32)) hx hb dX4_comesIn_32 (by decide) ?_
  obtain ⟨m9, hc8, hf⟩ := bd1_some hf
  refine cV (X := List.take 0 (wX4 E a m7)) (Y := List.drop 12 (wX4 E a m7)) (w := (wX4 E a m7)) (w' := (wX4 E a m9)) (q0 := 0) lk_X4_73 hx hb hml hown hE hA (c_X4_sets l E a m7 ((g4_d m0) (0 : Int32).toNatClampNeg) (3 : Int32) (0 : Int32) m9 hc8) rfl rfl hP hD hS rfl rfl ⟨rfl, rfl, Nat.le_of_ble_eq_true rfl, Nat.le_of_ble_eq_true rfl⟩ hl.1 (As := [.int ((g4_d m0) (0 : Int32).toNatClampNeg), .int (3 : Int32), .int (0 : Int32)]) (rest := []) rfl rfl (Nat.le_of_ble_eq_true rfl) ⟨Nat.zero_le _, Nat.zero_le _⟩ dX4_comesIn_33 (fun H locs hP hD hS => ?_)
  refine W.eq (g2 := F0 m 36 ls []) rfl ?_
  refine lv_aload_n hx hb dX4_comesIn_36 rfl (lv_at hl 1 rfl) ?_
  refine va_get (D := E.1) (ci := 4) (v := .ref (a 1)) (C := RX4) (T := TX4) (N := 18) hx hb hts inX4 hown hE.2.1 hP 0 rfl rfl 0 (by decide) (hE.w tw_598) (fun _ h9 => h9) rfl dX4_comesIn_37 ?_
  refine lv_iconst (v := (0 : Int32)) hx hb dX4_comesIn_40 (by decide) ?_
  refine lv_dup2_11 hx hb dX4_comesIn_41 rfl rfl ?_
  obtain ⟨hg10, hf⟩ := gd_some hf
  refine va_iald hx hb hE.2.1 hP 1 0 rfl rfl hg10 dX4_comesIn_42 ?_
  refine lv_iconst (v := (1 : Int32)) hx hb dX4_comesIn_43 (by decide) ?_
  refine lv_iadd hx hb dX4_comesIn_44 ?_
  obtain ⟨hg11, hf⟩ := gd_some hf
  obtain ⟨m_12, em_12, hf⟩ := jn1_some hf
  refine va_iast hx hb hE.2.1 hP hD hS 1 0 rfl rfl hg11 dX4_comesIn_45 (fun H locs hP hD hS => ?_)
  have hP : va_P E.1 vwCl (wX4 E a m_12) H := wst (by rw [em_12]; exact rfl) hP
  have hD : va_D A (wX4 E a m_12) := wsd (by rw [em_12]; exact rfl) hD
  refine lv_iload_n hx hb dX4_comesIn_46 rfl (lv_at hl 0 rfl) ?_
  obtain ⟨rfl, rfl⟩ := so2 hf
  exact rt_i hx hb hr hlocks hP hD hS dX4_comesIn_47
def f_X4_person (m0 : MS) (p1 : Int32) : Option (Int32 × MS) := bd1 (f_X4_in (p1.toInt64) (0 : Int64) (5 : Int64)) (fun r2 => if (bI r2) = 0 then bd2 (f_X4_finds m0 (0 : Int32)) (fun r13 m14 => some (r13, m14)) else gd (0 : Int32) 67 (if ((g4_d m0) (0 : Int32).toNatClampNeg) = (8 : Int32) then bd2 (f_X4_finds m0 (1 : Int32)) (fun r10 m11 => some (r10, m11)) else bd2 (f_X4_comesIn m0 p1) (fun r7 m8 => some (r7, m8))))
set_option maxHeartbeats 4000000 in
set_option maxRecDepth 100000 in
theorem c_X4_person (l : Launch) (E : EV) (a : Nat → Nat) (m0 : MS) (p1 : Int32)  (r : Int32) (m0' : MS) (hf : f_X4_person m0 p1 = some (r, m0')) : Ct l E yX4_person cX4_person 2 ((Option.some FieldType.int)) (rmk 2 45) [.ref (a 0), .int p1] (wX4 E a m0) (wX4 E a m0') (some (.int r)) := by
  refine Ct.of (by decide) (Nat.le_of_ble_eq_true rfl) ?_
  intro p e s m below meth c A ls hC hP hD hl
  obtain ⟨hx, hb, hr, hml, hown, hlocks, hE, hA⟩ := hC
  have hts : ∀ w ∈ tbl, w.before [.ref (a 0), .int p1].toArray s = true := fun w hw => hE.w hw
  have hS : va_S A s.heap s.heap [] := va_S.rf
  have hl : lv_has ls 2 [(0, .ref (a 0)), (1, .int p1)] := hl
  unfold f_X4_person at hf
  refine lv_iload_n hx hb dX4_person_0 rfl (lv_at hl 1 rfl) ?_
  refine lv_i2l (v := (p1.toInt64)) hx hb dX4_person_1 rfl ?_
  refine lv_lconst (v := (0 : Int64)) hx hb dX4_person_2 (by decide) ?_
  refine lv_ldc2 (v := (5 : Int64)) hx hb hown (hE.w tw_707) dX4_person_3 ?_
  obtain ⟨r2, hc1, hf⟩ := bd1_some hf
  refine cS (X := List.take 0 (wX4 E a m0)) (Y := List.drop 0 (wX4 E a m0)) (w := (wX4 E a m0)) (w' := (wX4 E a m0)) lk_X4_46 hx hb hml hown hE hA (c_X4_in l E (p1.toInt64) (0 : Int64) (5 : Int64) r2 hc1) rfl rfl hP hD hS ⟨rfl, rfl, Nat.le_of_ble_eq_true rfl, Nat.le_of_ble_eq_true rfl⟩ hl.1 (As := [.long (p1.toInt64), .long (0 : Int64), .long (5 : Int64)]) (rest := []) rfl rfl (Nat.le_of_ble_eq_true rfl) ⟨Nat.zero_le _, Nat.zero_le _⟩ dX4_person_6 (fun H locs hP hD hS => ?_)
  refine W.eq (g2 := F0 m 9 ls [.int (bI r2)]) rfl ?_
  refine lv_if_ne (tgt := 18) hx hb dX4_person_9 (by decide) (fun c3 => ?_) (fun c3 => ?_)
  · have hf := im c3 hf
    refine lv_aload_n hx hb dX4_person_18 rfl (lv_at hl 0 rfl) ?_
    refine va_get (D := E.1) (ci := 4) (v := .ref (a 1)) (C := RX4) (T := TX4) (N := 18) hx hb hts inX4 hown hE.2.1 hP 0 rfl rfl 0 (by decide) (hE.w tw_598) (fun _ h9 => h9) rfl dX4_person_19 ?_
    refine lv_iconst (v := (0 : Int32)) hx hb dX4_person_22 (by decide) ?_
    obtain ⟨hg4, hf⟩ := gd_some hf
    refine va_iald hx hb hE.2.1 hP 1 0 rfl rfl hg4 dX4_person_23 ?_
    refine lv_bipush (v := (8 : Int32)) hx hb dX4_person_24 (by decide) ?_
    refine lv_icmp_ne (tgt := 37) hx hb dX4_person_26 (by decide) (fun c5 => ?_) (fun c5 => ?_)
    · have hf := im c5 hf
      refine lv_aload_n hx hb dX4_person_37 rfl (lv_at hl 0 rfl) ?_
      refine lv_iload_n hx hb dX4_person_38 rfl (lv_at hl 1 rfl) ?_
      obtain ⟨r7, m8, hc6, hf⟩ := bd2_some hf
      refine cV (X := List.take 0 (wX4 E a m0)) (Y := List.drop 12 (wX4 E a m0)) (w := (wX4 E a m0)) (w' := (wX4 E a m8)) (q0 := 0) lk_X4_107 hx hb hml hown hE hA (c_X4_comesIn l E a m0 p1 r7 m8 hc6) rfl rfl hP hD hS rfl rfl ⟨rfl, rfl, Nat.le_of_ble_eq_true rfl, Nat.le_of_ble_eq_true rfl⟩ hl.1 (As := [.int p1]) (rest := []) rfl rfl (Nat.le_of_ble_eq_true rfl) ⟨Nat.zero_le _, Nat.zero_le _⟩ dX4_person_39 (fun H locs hP hD hS => ?_)
      refine W.eq (g2 := F0 m 42 ls [.int r7]) rfl ?_
      obtain ⟨rfl, rfl⟩ := so2 hf
      exact rt_i hx hb hr hlocks hP hD hS dX4_person_42
    · have hf := ip c5 hf
      refine lv_aload_n hx hb dX4_person_29 rfl (lv_at hl 0 rfl) ?_
      refine lv_iconst (v := (1 : Int32)) hx hb dX4_person_30 (by decide) ?_
      obtain ⟨r10, m11, hc9, hf⟩ := bd2_some hf
      refine cV (X := List.take 0 (wX4 E a m0)) (Y := List.drop 12 (wX4 E a m0)) (w := (wX4 E a m0)) (w' := (wX4 E a m11)) (q0 := 0) lk_X4_92 hx hb hml hown hE hA (c_X4_finds l E a m0 (1 : Int32) r10 m11 hc9) rfl rfl hP hD hS rfl rfl ⟨rfl, rfl, Nat.le_of_ble_eq_true rfl, Nat.le_of_ble_eq_true rfl⟩ hl.1 (As := [.int (1 : Int32)]) (rest := []) rfl rfl (Nat.le_of_ble_eq_true rfl) ⟨Nat.zero_le _, Nat.zero_le _⟩ dX4_person_31 (fun H locs hP hD hS => ?_)
      refine W.eq (g2 := F0 m 34 ls [.int r10]) rfl ?_
      refine lv_goto (tgt := 42) hx hb dX4_person_34 (by decide) ?_
      obtain ⟨rfl, rfl⟩ := so2 hf
      exact rt_i hx hb hr hlocks hP hD hS dX4_person_42
  · have hf := ip c3 hf
    refine lv_aload_n hx hb dX4_person_12 rfl (lv_at hl 0 rfl) ?_
    refine lv_iconst (v := (0 : Int32)) hx hb dX4_person_13 (by decide) ?_
    obtain ⟨r13, m14, hc12, hf⟩ := bd2_some hf
    refine cV (X := List.take 0 (wX4 E a m0)) (Y := List.drop 12 (wX4 E a m0)) (w := (wX4 E a m0)) (w' := (wX4 E a m14)) (q0 := 0) lk_X4_92 hx hb hml hown hE hA (c_X4_finds l E a m0 (0 : Int32) r13 m14 hc12) rfl rfl hP hD hS rfl rfl ⟨rfl, rfl, Nat.le_of_ble_eq_true rfl, Nat.le_of_ble_eq_true rfl⟩ hl.1 (As := [.int (0 : Int32)]) (rest := []) rfl rfl (Nat.le_of_ble_eq_true rfl) ⟨Nat.zero_le _, Nat.zero_le _⟩ dX4_person_14 (fun H locs hP hD hS => ?_)
    refine W.eq (g2 := F0 m 17 ls [.int r13]) rfl ?_
    obtain ⟨rfl, rfl⟩ := so2 hf
    exact rt_i hx hb hr hlocks hP hD hS dX4_person_17
def f_X4_of (m0 : MS) (p1 : Int32) (p2 : Int32) : Option (Int32 × MS) := bd1 (f_X4_isPerson m0 p1) (fun r2 => if (bI r2) = 0 then bd2 (f_X4_finds m0 (0 : Int32)) (fun r5 m6 => some (r5, m6)) else bd1 (f_X4_in (p2.toInt64) (0 : Int64) (5 : Int64)) (fun r8 => if (bI r8) = 0 then bd2 (f_X4_finds m0 (0 : Int32)) (fun r25 m26 => some (r25, m26)) else if p2 = (2 : Int32) then bd1 (f_X4_its m0 p1 (2 : Int32)) (fun r12 => some (((10000 : Int32) + r12), m0)) else if p2 = (3 : Int32) then bd1 (f_X4_its m0 p1 p2) (fun r15 => some (r15, m0)) else if p2 = (4 : Int32) then bd1 (f_X4_doesNow m0 p1) (fun r18 => some (r18, m0)) else if p2 = (5 : Int32) then bd1 (f_X4_stales m0 p1) (fun r21 => some (((100 : Int32) + r21), m0)) else bd1 (f_X4_its m0 p1 p2) (fun r23 => some (r23, m0))))
set_option maxHeartbeats 4000000 in
set_option maxRecDepth 100000 in
theorem c_X4_of (l : Launch) (E : EV) (a : Nat → Nat) (m0 : MS) (p1 : Int32) (p2 : Int32)  (r : Int32) (m0' : MS) (hf : f_X4_of m0 p1 p2 = some (r, m0')) : Ct l E yX4_of cX4_of 3 ((Option.some FieldType.int)) (rmk 4 93) [.ref (a 0), .int p1, .int p2] (wX4 E a m0) (wX4 E a m0') (some (.int r)) := by
  refine Ct.of (by decide) (Nat.le_of_ble_eq_true rfl) ?_
  intro p e s m below meth c A ls hC hP hD hl
  obtain ⟨hx, hb, hr, hml, hown, hlocks, hE, hA⟩ := hC
  have hts : ∀ w ∈ tbl, w.before [.ref (a 0), .int p1, .int p2].toArray s = true := fun w hw => hE.w hw
  have hS : va_S A s.heap s.heap [] := va_S.rf
  have hl : lv_has ls 3 [(0, .ref (a 0)), (1, .int p1), (2, .int p2)] := hl
  unfold f_X4_of at hf
  refine lv_aload_n hx hb dX4_of_0 rfl (lv_at hl 0 rfl) ?_
  refine lv_iload_n hx hb dX4_of_1 rfl (lv_at hl 1 rfl) ?_
  obtain ⟨r2, hc1, hf⟩ := bd1_some hf
  refine cV (X := List.take 0 (wX4 E a m0)) (Y := List.drop 12 (wX4 E a m0)) (w := (wX4 E a m0)) (w' := (wX4 E a m0)) (q0 := 0) lk_X4_50 hx hb hml hown hE hA (c_X4_isPerson l E a m0 p1 r2 hc1) rfl rfl hP hD hS rfl rfl ⟨rfl, rfl, Nat.le_of_ble_eq_true rfl, Nat.le_of_ble_eq_true rfl⟩ hl.1 (As := [.int p1]) (rest := []) rfl rfl (Nat.le_of_ble_eq_true rfl) ⟨Nat.zero_le _, Nat.zero_le _⟩ dX4_of_2 (fun H locs hP hD hS => ?_)
  refine W.eq (g2 := F0 m 5 ls [.int (bI r2)]) rfl ?_
  refine lv_if_eq (tgt := 20) hx hb dX4_of_5 (by decide) (fun c3 => ?_) (fun c3 => ?_)
  · have hf := ip c3 hf
    refine lv_aload_n hx hb dX4_of_20 rfl (lv_at hl 0 rfl) ?_
    refine lv_iconst (v := (0 : Int32)) hx hb dX4_of_21 (by decide) ?_
    obtain ⟨r5, m6, hc4, hf⟩ := bd2_some hf
    refine cV (X := List.take 0 (wX4 E a m0)) (Y := List.drop 12 (wX4 E a m0)) (w := (wX4 E a m0)) (w' := (wX4 E a m6)) (q0 := 0) lk_X4_92 hx hb hml hown hE hA (c_X4_finds l E a m0 (0 : Int32) r5 m6 hc4) rfl rfl hP hD hS rfl rfl ⟨rfl, rfl, Nat.le_of_ble_eq_true rfl, Nat.le_of_ble_eq_true rfl⟩ hl.1 (As := [.int (0 : Int32)]) (rest := []) rfl rfl (Nat.le_of_ble_eq_true rfl) ⟨Nat.zero_le _, Nat.zero_le _⟩ dX4_of_22 (fun H locs hP hD hS => ?_)
    refine W.eq (g2 := F0 m 25 ls [.int r5]) rfl ?_
    obtain ⟨rfl, rfl⟩ := so2 hf
    exact rt_i hx hb hr hlocks hP hD hS dX4_of_25
  · have hf := im c3 hf
    refine lv_iload_n hx hb dX4_of_8 rfl (lv_at hl 2 rfl) ?_
    refine lv_i2l (v := (p2.toInt64)) hx hb dX4_of_9 rfl ?_
    refine lv_lconst (v := (0 : Int64)) hx hb dX4_of_10 (by decide) ?_
    refine lv_ldc2 (v := (5 : Int64)) hx hb hown (hE.w tw_707) dX4_of_11 ?_
    obtain ⟨r8, hc7, hf⟩ := bd1_some hf
    refine cS (X := List.take 0 (wX4 E a m0)) (Y := List.drop 0 (wX4 E a m0)) (w := (wX4 E a m0)) (w' := (wX4 E a m0)) lk_X4_46 hx hb hml hown hE hA (c_X4_in l E (p2.toInt64) (0 : Int64) (5 : Int64) r8 hc7) rfl rfl hP hD hS ⟨rfl, rfl, Nat.le_of_ble_eq_true rfl, Nat.le_of_ble_eq_true rfl⟩ hl.1 (As := [.long (p2.toInt64), .long (0 : Int64), .long (5 : Int64)]) (rest := []) rfl rfl (Nat.le_of_ble_eq_true rfl) ⟨Nat.zero_le _, Nat.zero_le _⟩ dX4_of_14 (fun H locs hP hD hS => ?_)
    refine W.eq (g2 := F0 m 17 ls [.int (bI r8)]) rfl ?_
    refine lv_if_ne (tgt := 26) hx hb dX4_of_17 (by decide) (fun c9 => ?_) (fun c9 => ?_)
    · have hf := im c9 hf
      refine lv_iload_n hx hb dX4_of_26 rfl (lv_at hl 2 rfl) ?_
      by_cases c10 : p2 = (2 : Int32)
      · have hf := ip c10 hf
        refine lv_tableIn (off := 29) (tgt := 56) hx hb dX4_of_27 (by rw [c10]; decide) (by rw [c10]; decide) (by rw [c10]; rfl) (by decide) ?_
        refine lv_sipush (v := (10000 : Int32)) hx hb dX4_of_56 (by decide) ?_
        refine lv_aload_n hx hb dX4_of_59 rfl (lv_at hl 0 rfl) ?_
        refine lv_iload_n hx hb dX4_of_60 rfl (lv_at hl 1 rfl) ?_
        refine lv_iconst (v := (2 : Int32)) hx hb dX4_of_61 (by decide) ?_
        obtain ⟨r12, hc11, hf⟩ := bd1_some hf
        refine cV (X := List.take 0 (wX4 E a m0)) (Y := List.drop 12 (wX4 E a m0)) (w := (wX4 E a m0)) (w' := (wX4 E a m0)) (q0 := 0) lk_X4_54 hx hb hml hown hE hA (c_X4_its l E a m0 p1 (2 : Int32) r12 hc11) rfl rfl hP hD hS rfl rfl ⟨rfl, rfl, Nat.le_of_ble_eq_true rfl, Nat.le_of_ble_eq_true rfl⟩ hl.1 (As := [.int p1, .int (2 : Int32)]) (rest := [.int (10000 : Int32)]) rfl rfl (Nat.le_of_ble_eq_true rfl) ⟨Nat.zero_le _, Nat.zero_le _⟩ dX4_of_62 (fun H locs hP hD hS => ?_)
        refine W.eq (g2 := F0 m 65 ls [.int r12, .int (10000 : Int32)]) rfl ?_
        refine lv_iadd hx hb dX4_of_65 ?_
        obtain ⟨rfl, rfl⟩ := so2 hf
        exact rt_i hx hb hr hlocks hP hD hS dX4_of_66
      have hf := im c10 hf
      by_cases c13 : p2 = (3 : Int32)
      · have hf := ip c13 hf
        refine lv_tableIn (off := 55) (tgt := 82) hx hb dX4_of_27 (by rw [c13]; decide) (by rw [c13]; decide) (by rw [c13]; rfl) (by decide) ?_
        refine lv_aload_n hx hb dX4_of_82 rfl (lv_at hl 0 rfl) ?_
        refine lv_iload_n hx hb dX4_of_83 rfl (lv_at hl 1 rfl) ?_
        refine lv_iload_n hx hb dX4_of_84 rfl (lv_at hl 2 rfl) ?_
        obtain ⟨r15, hc14, hf⟩ := bd1_some hf
        refine cV (X := List.take 0 (wX4 E a m0)) (Y := List.drop 12 (wX4 E a m0)) (w := (wX4 E a m0)) (w' := (wX4 E a m0)) (q0 := 0) lk_X4_54 hx hb hml hown hE hA (c_X4_its l E a m0 p1 p2 r15 hc14) rfl rfl hP hD hS rfl rfl ⟨rfl, rfl, Nat.le_of_ble_eq_true rfl, Nat.le_of_ble_eq_true rfl⟩ hl.1 (As := [.int p1, .int p2]) (rest := []) rfl rfl (Nat.le_of_ble_eq_true rfl) ⟨Nat.zero_le _, Nat.zero_le _⟩ dX4_of_85 (fun H locs hP hD hS => ?_)
        refine W.eq (g2 := F0 m 88 ls [.int r15]) rfl ?_
        obtain ⟨rfl, rfl⟩ := so2 hf
        exact rt_i hx hb hr hlocks hP hD hS dX4_of_88
      have hf := im c13 hf
      by_cases c16 : p2 = (4 : Int32)
      · have hf := ip c16 hf
        refine lv_tableIn (off := 40) (tgt := 67) hx hb dX4_of_27 (by rw [c16]; decide) (by rw [c16]; decide) (by rw [c16]; rfl) (by decide) ?_
        refine lv_aload_n hx hb dX4_of_67 rfl (lv_at hl 0 rfl) ?_
        refine lv_iload_n hx hb dX4_of_68 rfl (lv_at hl 1 rfl) ?_
        obtain ⟨r18, hc17, hf⟩ := bd1_some hf
        refine cV (X := List.take 0 (wX4 E a m0)) (Y := List.drop 12 (wX4 E a m0)) (w := (wX4 E a m0)) (w' := (wX4 E a m0)) (q0 := 0) lk_X4_66 hx hb hml hown hE hA (c_X4_doesNow l E a m0 p1 r18 hc17) rfl rfl hP hD hS rfl rfl ⟨rfl, rfl, Nat.le_of_ble_eq_true rfl, Nat.le_of_ble_eq_true rfl⟩ hl.1 (As := [.int p1]) (rest := []) rfl rfl (Nat.le_of_ble_eq_true rfl) ⟨Nat.zero_le _, Nat.zero_le _⟩ dX4_of_69 (fun H locs hP hD hS => ?_)
        refine W.eq (g2 := F0 m 72 ls [.int r18]) rfl ?_
        obtain ⟨rfl, rfl⟩ := so2 hf
        exact rt_i hx hb hr hlocks hP hD hS dX4_of_72
      have hf := im c16 hf
      by_cases c19 : p2 = (5 : Int32)
      · have hf := ip c19 hf
        refine lv_tableIn (off := 46) (tgt := 73) hx hb dX4_of_27 (by rw [c19]; decide) (by rw [c19]; decide) (by rw [c19]; rfl) (by decide) ?_
        refine lv_bipush (v := (100 : Int32)) hx hb dX4_of_73 (by decide) ?_
        refine lv_aload_n hx hb dX4_of_75 rfl (lv_at hl 0 rfl) ?_
        refine lv_iload_n hx hb dX4_of_76 rfl (lv_at hl 1 rfl) ?_
        obtain ⟨r21, hc20, hf⟩ := bd1_some hf
        refine cV (X := List.take 0 (wX4 E a m0)) (Y := List.drop 12 (wX4 E a m0)) (w := (wX4 E a m0)) (w' := (wX4 E a m0)) (q0 := 0) lk_X4_77 hx hb hml hown hE hA (c_X4_stales l E a m0 p1 r21 hc20) rfl rfl hP hD hS rfl rfl ⟨rfl, rfl, Nat.le_of_ble_eq_true rfl, Nat.le_of_ble_eq_true rfl⟩ hl.1 (As := [.int p1]) (rest := [.int (100 : Int32)]) rfl rfl (Nat.le_of_ble_eq_true rfl) ⟨Nat.zero_le _, Nat.zero_le _⟩ dX4_of_77 (fun H locs hP hD hS => ?_)
        refine W.eq (g2 := F0 m 80 ls [.int r21, .int (100 : Int32)]) rfl ?_
        refine lv_iadd hx hb dX4_of_80 ?_
        obtain ⟨rfl, rfl⟩ := so2 hf
        exact rt_i hx hb hr hlocks hP hD hS dX4_of_81
      have hf := im c19 hf
      refine lv_tableOut (tgt := 82) hx hb dX4_of_27 (by have zc10 := lv_neT c10 (a := 2) (by decide); have zc13 := lv_neT c13 (a := 3) (by decide); have zc16 := lv_neT c16 (a := 4) (by decide); have zc19 := lv_neT c19 (a := 5) (by decide); omega) (by decide) ?_
      refine lv_aload_n hx hb dX4_of_82 rfl (lv_at hl 0 rfl) ?_
      refine lv_iload_n hx hb dX4_of_83 rfl (lv_at hl 1 rfl) ?_
      refine lv_iload_n hx hb dX4_of_84 rfl (lv_at hl 2 rfl) ?_
      obtain ⟨r23, hc22, hf⟩ := bd1_some hf
      refine cV (X := List.take 0 (wX4 E a m0)) (Y := List.drop 12 (wX4 E a m0)) (w := (wX4 E a m0)) (w' := (wX4 E a m0)) (q0 := 0) lk_X4_54 hx hb hml hown hE hA (c_X4_its l E a m0 p1 p2 r23 hc22) rfl rfl hP hD hS rfl rfl ⟨rfl, rfl, Nat.le_of_ble_eq_true rfl, Nat.le_of_ble_eq_true rfl⟩ hl.1 (As := [.int p1, .int p2]) (rest := []) rfl rfl (Nat.le_of_ble_eq_true rfl) ⟨Nat.zero_le _, Nat.zero_le _⟩ dX4_of_85 (fun H locs hP hD hS => ?_)
      refine W.eq (g2 := F0 m 88 ls [.int r23]) rfl ?_
      obtain ⟨rfl, rfl⟩ := so2 hf
      exact rt_i hx hb hr hlocks hP hD hS dX4_of_88
    · have hf := ip c9 hf
      refine lv_aload_n hx hb dX4_of_20 rfl (lv_at hl 0 rfl) ?_
      refine lv_iconst (v := (0 : Int32)) hx hb dX4_of_21 (by decide) ?_
      obtain ⟨r25, m26, hc24, hf⟩ := bd2_some hf
      refine cV (X := List.take 0 (wX4 E a m0)) (Y := List.drop 12 (wX4 E a m0)) (w := (wX4 E a m0)) (w' := (wX4 E a m26)) (q0 := 0) lk_X4_92 hx hb hml hown hE hA (c_X4_finds l E a m0 (0 : Int32) r25 m26 hc24) rfl rfl hP hD hS rfl rfl ⟨rfl, rfl, Nat.le_of_ble_eq_true rfl, Nat.le_of_ble_eq_true rfl⟩ hl.1 (As := [.int (0 : Int32)]) (rest := []) rfl rfl (Nat.le_of_ble_eq_true rfl) ⟨Nat.zero_le _, Nat.zero_le _⟩ dX4_of_22 (fun H locs hP hD hS => ?_)
      refine W.eq (g2 := F0 m 25 ls [.int r25]) rfl ?_
      obtain ⟨rfl, rfl⟩ := so2 hf
      exact rt_i hx hb hr hlocks hP hD hS dX4_of_25
def f_X4_scores (m0 : MS) (p1 : Int32) (p2 : Int32) (p3 : Int32) : Option (Int32 × MS) := bd1 (f_X4_isPerson m0 p1) (fun r2 => if (bI r2) = 0 then bd2 (f_X4_finds m0 (0 : Int32)) (fun r5 m6 => some (r5, m6)) else bd1 (f_X4_isDone p2) (fun r8 => if (bI r8) = 0 then bd2 (f_X4_finds m0 (0 : Int32)) (fun r11 m12 => some (r11, m12)) else bd1 (f_X4_isDone p3) (fun r14 => if (bI r14) = 0 then bd2 (f_X4_finds m0 (0 : Int32)) (fun r17 m18 => some (r17, m18)) else bd1 (f_X4_scoresFor m0 p1 p2 p3) (fun r20 => some (((100 : Int32) + r20), m0)))))
set_option maxHeartbeats 4000000 in
set_option maxRecDepth 100000 in
theorem c_X4_scores (l : Launch) (E : EV) (a : Nat → Nat) (m0 : MS) (p1 : Int32) (p2 : Int32) (p3 : Int32)  (r : Int32) (m0' : MS) (hf : f_X4_scores m0 p1 p2 p3 = some (r, m0')) : Ct l E yX4_scores cX4_scores 4 ((Option.some FieldType.int)) (rmk 2 48) [.ref (a 0), .int p1, .int p2, .int p3] (wX4 E a m0) (wX4 E a m0') (some (.int r)) := by
  refine Ct.of (by decide) (Nat.le_of_ble_eq_true rfl) ?_
  intro p e s m below meth c A ls hC hP hD hl
  obtain ⟨hx, hb, hr, hml, hown, hlocks, hE, hA⟩ := hC
  have hts : ∀ w ∈ tbl, w.before [.ref (a 0), .int p1, .int p2, .int p3].toArray s = true := fun w hw => hE.w hw
  have hS : va_S A s.heap s.heap [] := va_S.rf
  have hl : lv_has ls 4 [(0, .ref (a 0)), (1, .int p1), (2, .int p2), (3, .int p3)] := hl
  unfold f_X4_scores at hf
  refine lv_aload_n hx hb dX4_scores_0 rfl (lv_at hl 0 rfl) ?_
  refine lv_iload_n hx hb dX4_scores_1 rfl (lv_at hl 1 rfl) ?_
  obtain ⟨r2, hc1, hf⟩ := bd1_some hf
  refine cV (X := List.take 0 (wX4 E a m0)) (Y := List.drop 12 (wX4 E a m0)) (w := (wX4 E a m0)) (w' := (wX4 E a m0)) (q0 := 0) lk_X4_50 hx hb hml hown hE hA (c_X4_isPerson l E a m0 p1 r2 hc1) rfl rfl hP hD hS rfl rfl ⟨rfl, rfl, Nat.le_of_ble_eq_true rfl, Nat.le_of_ble_eq_true rfl⟩ hl.1 (As := [.int p1]) (rest := []) rfl rfl (Nat.le_of_ble_eq_true rfl) ⟨Nat.zero_le _, Nat.zero_le _⟩ dX4_scores_2 (fun H locs hP hD hS => ?_)
  refine W.eq (g2 := F0 m 5 ls [.int (bI r2)]) rfl ?_
  refine lv_if_eq (tgt := 35) hx hb dX4_scores_5 (by decide) (fun c3 => ?_) (fun c3 => ?_)
  · have hf := ip c3 hf
    refine lv_aload_n hx hb dX4_scores_35 rfl (lv_at hl 0 rfl) ?_
    refine lv_iconst (v := (0 : Int32)) hx hb dX4_scores_36 (by decide) ?_
    obtain ⟨r5, m6, hc4, hf⟩ := bd2_some hf
    refine cV (X := List.take 0 (wX4 E a m0)) (Y := List.drop 12 (wX4 E a m0)) (w := (wX4 E a m0)) (w' := (wX4 E a m6)) (q0 := 0) lk_X4_92 hx hb hml hown hE hA (c_X4_finds l E a m0 (0 : Int32) r5 m6 hc4) rfl rfl hP hD hS rfl rfl ⟨rfl, rfl, Nat.le_of_ble_eq_true rfl, Nat.le_of_ble_eq_true rfl⟩ hl.1 (As := [.int (0 : Int32)]) (rest := []) rfl rfl (Nat.le_of_ble_eq_true rfl) ⟨Nat.zero_le _, Nat.zero_le _⟩ dX4_scores_37 (fun H locs hP hD hS => ?_)
    refine W.eq (g2 := F0 m 40 ls [.int r5]) rfl ?_
    obtain ⟨rfl, rfl⟩ := so2 hf
    exact rt_i hx hb hr hlocks hP hD hS dX4_scores_40
  · have hf := im c3 hf
    refine lv_iload_n hx hb dX4_scores_8 rfl (lv_at hl 2 rfl) ?_
    obtain ⟨r8, hc7, hf⟩ := bd1_some hf
    refine cS (X := List.take 0 (wX4 E a m0)) (Y := List.drop 0 (wX4 E a m0)) (w := (wX4 E a m0)) (w' := (wX4 E a m0)) lk_X4_110 hx hb hml hown hE hA (c_X4_isDone l E p2 r8 hc7) rfl rfl hP hD hS ⟨rfl, rfl, Nat.le_of_ble_eq_true rfl, Nat.le_of_ble_eq_true rfl⟩ hl.1 (As := [.int p2]) (rest := []) rfl rfl (Nat.le_of_ble_eq_true rfl) ⟨Nat.zero_le _, Nat.zero_le _⟩ dX4_scores_9 (fun H locs hP hD hS => ?_)
    refine W.eq (g2 := F0 m 12 ls [.int (bI r8)]) rfl ?_
    refine lv_if_eq (tgt := 35) hx hb dX4_scores_12 (by decide) (fun c9 => ?_) (fun c9 => ?_)
    · have hf := ip c9 hf
      refine lv_aload_n hx hb dX4_scores_35 rfl (lv_at hl 0 rfl) ?_
      refine lv_iconst (v := (0 : Int32)) hx hb dX4_scores_36 (by decide) ?_
      obtain ⟨r11, m12, hc10, hf⟩ := bd2_some hf
      refine cV (X := List.take 0 (wX4 E a m0)) (Y := List.drop 12 (wX4 E a m0)) (w := (wX4 E a m0)) (w' := (wX4 E a m12)) (q0 := 0) lk_X4_92 hx hb hml hown hE hA (c_X4_finds l E a m0 (0 : Int32) r11 m12 hc10) rfl rfl hP hD hS rfl rfl ⟨rfl, rfl, Nat.le_of_ble_eq_true rfl, Nat.le_of_ble_eq_true rfl⟩ hl.1 (As := [.int (0 : Int32)]) (rest := []) rfl rfl (Nat.le_of_ble_eq_true rfl) ⟨Nat.zero_le _, Nat.zero_le _⟩ dX4_scores_37 (fun H locs hP hD hS => ?_)
      refine W.eq (g2 := F0 m 40 ls [.int r11]) rfl ?_
      obtain ⟨rfl, rfl⟩ := so2 hf
      exact rt_i hx hb hr hlocks hP hD hS dX4_scores_40
    · have hf := im c9 hf
      refine lv_iload_n hx hb dX4_scores_15 rfl (lv_at hl 3 rfl) ?_
      obtain ⟨r14, hc13, hf⟩ := bd1_some hf
      refine cS (X := List.take 0 (wX4 E a m0)) (Y := List.drop 0 (wX4 E a m0)) (w := (wX4 E a m0)) (w' := (wX4 E a m0)) lk_X4_110 hx hb hml hown hE hA (c_X4_isDone l E p3 r14 hc13) rfl rfl hP hD hS ⟨rfl, rfl, Nat.le_of_ble_eq_true rfl, Nat.le_of_ble_eq_true rfl⟩ hl.1 (As := [.int p3]) (rest := []) rfl rfl (Nat.le_of_ble_eq_true rfl) ⟨Nat.zero_le _, Nat.zero_le _⟩ dX4_scores_16 (fun H locs hP hD hS => ?_)
      refine W.eq (g2 := F0 m 19 ls [.int (bI r14)]) rfl ?_
      refine lv_if_eq (tgt := 35) hx hb dX4_scores_19 (by decide) (fun c15 => ?_) (fun c15 => ?_)
      · have hf := ip c15 hf
        refine lv_aload_n hx hb dX4_scores_35 rfl (lv_at hl 0 rfl) ?_
        refine lv_iconst (v := (0 : Int32)) hx hb dX4_scores_36 (by decide) ?_
        obtain ⟨r17, m18, hc16, hf⟩ := bd2_some hf
        refine cV (X := List.take 0 (wX4 E a m0)) (Y := List.drop 12 (wX4 E a m0)) (w := (wX4 E a m0)) (w' := (wX4 E a m18)) (q0 := 0) lk_X4_92 hx hb hml hown hE hA (c_X4_finds l E a m0 (0 : Int32) r17 m18 hc16) rfl rfl hP hD hS rfl rfl ⟨rfl, rfl, Nat.le_of_ble_eq_true rfl, Nat.le_of_ble_eq_true rfl⟩ hl.1 (As := [.int (0 : Int32)]) (rest := []) rfl rfl (Nat.le_of_ble_eq_true rfl) ⟨Nat.zero_le _, Nat.zero_le _⟩ dX4_scores_37 (fun H locs hP hD hS => ?_)
        refine W.eq (g2 := F0 m 40 ls [.int r17]) rfl ?_
        obtain ⟨rfl, rfl⟩ := so2 hf
        exact rt_i hx hb hr hlocks hP hD hS dX4_scores_40
      · have hf := im c15 hf
        refine lv_bipush (v := (100 : Int32)) hx hb dX4_scores_22 (by decide) ?_
        refine lv_aload_n hx hb dX4_scores_24 rfl (lv_at hl 0 rfl) ?_
        refine lv_iload_n hx hb dX4_scores_25 rfl (lv_at hl 1 rfl) ?_
        refine lv_iload_n hx hb dX4_scores_26 rfl (lv_at hl 2 rfl) ?_
        refine lv_iload_n hx hb dX4_scores_27 rfl (lv_at hl 3 rfl) ?_
        obtain ⟨r20, hc19, hf⟩ := bd1_some hf
        refine cV (X := List.take 0 (wX4 E a m0)) (Y := List.drop 12 (wX4 E a m0)) (w := (wX4 E a m0)) (w' := (wX4 E a m0)) (q0 := 0) lk_X4_70 hx hb hml hown hE hA (c_X4_scoresFor l E a m0 p1 p2 p3 r20 hc19) rfl rfl hP hD hS rfl rfl ⟨rfl, rfl, Nat.le_of_ble_eq_true rfl, Nat.le_of_ble_eq_true rfl⟩ hl.1 (As := [.int p1, .int p2, .int p3]) (rest := [.int (100 : Int32)]) rfl rfl (Nat.le_of_ble_eq_true rfl) ⟨Nat.zero_le _, Nat.zero_le _⟩ dX4_scores_28 (fun H locs hP hD hS => ?_)
        refine W.eq (g2 := F0 m 31 ls [.int r20, .int (100 : Int32)]) rfl ?_
        refine lv_iadd hx hb dX4_scores_31 ?_
        refine lv_goto (tgt := 40) hx hb dX4_scores_32 (by decide) ?_
        obtain ⟨rfl, rfl⟩ := so2 hf
        exact rt_i hx hb hr hlocks hP hD hS dX4_scores_40
def f_X4_set (m0 : MS) (p1 : Int32) (p2 : Int32) (p3 : Int32) : Option (Int32 × MS) := bd1 (if p2 = (1 : Int32) then bd1 (f_X4_in (p3.toInt64) (0 : Int64) (99 : Int64)) (fun r13 => some ((bI r13))) else if p2 = (2 : Int32) then bd1 (f_X4_in (p3.toInt64) (-9999 : Int64) (9999 : Int64)) (fun r11 => some ((bI r11))) else if p2 = (3 : Int32) then bd1 (f_X4_isDone p3) (fun r8 => if (bI r8) = 0 then some ((0 : Int32)) else some ((1 : Int32))) else some ((0 : Int32))) (fun x2 => bd1 (f_X4_isPerson m0 p1) (fun r15 => if (bI r15) = 0 then bd2 (f_X4_finds m0 (0 : Int32)) (fun r18 m19 => some (r18, m19)) else if x2 = 0 then bd2 (f_X4_finds m0 (0 : Int32)) (fun r22 m23 => some (r22, m23)) else bd2 (f_X4_becomes m0 (((35 : Int32) + ((4 : Int32) * p1)) + p2) p3) (fun r25 m26 => some (r25, m26))))
set_option maxHeartbeats 4000000 in
set_option maxRecDepth 100000 in
theorem c_X4_set (l : Launch) (E : EV) (a : Nat → Nat) (m0 : MS) (p1 : Int32) (p2 : Int32) (p3 : Int32)  (r : Int32) (m0' : MS) (hf : f_X4_set m0 p1 p2 p3 = some (r, m0')) : Ct l E yX4_set cX4_set 5 ((Option.some FieldType.int)) (rmk 2 46) [.ref (a 0), .int p1, .int p2, .int p3] (wX4 E a m0) (wX4 E a m0') (some (.int r)) := by
  refine Ct.of (by decide) (Nat.le_of_ble_eq_true rfl) ?_
  intro p e s m below meth c A ls hC hP hD hl
  obtain ⟨hx, hb, hr, hml, hown, hlocks, hE, hA⟩ := hC
  have hts : ∀ w ∈ tbl, w.before [.ref (a 0), .int p1, .int p2, .int p3].toArray s = true := fun w hw => hE.w hw
  have hS : va_S A s.heap s.heap [] := va_S.rf
  have hl : lv_has ls 5 [(0, .ref (a 0)), (1, .int p1), (2, .int p2), (3, .int p3)] := hl
  unfold f_X4_set at hf
  refine lv_iload_n hx hb dX4_set_0 rfl (lv_at hl 2 rfl) ?_
  refine lv_iconst (v := (1 : Int32)) hx hb dX4_set_1 (by decide) ?_
  obtain ⟨x2, hq4, hf⟩ := bd1_some hf
  have J3 : ∀ (H : Heap) (locs : List Loc) (ls : Array Slot), va_P E.1 vwCl (wX4 E a m0) H → va_D A (wX4 E a m0) → va_S A s.heap H locs → lv_has ls 5 [(0, .ref (a 0)), (1, .int p1), (2, .int p2), (3, .int p3)] → W p l e (rmk 2 46) s m [.ref (a 0), .int p1, .int p2, .int p3].toArray below meth c H locs 0 0 (MQ below (Qct E A (wX4 E a m0') (some (.int r))) [.ref (a 0), .int p1, .int p2, .int p3].toArray s 0 0 A) (F0 m 53 ls [.int x2]) := by
    intro H locs ls hP hD hS hl
    refine lv_istore (lv' := [(4, .int x2), (0, .ref (a 0)), (1, .int p1), (2, .int p2), (3, .int p3)]) hx hb dX4_set_53 hl (by decide) rfl (fun ls hl => ?_)
    refine lv_aload_n hx hb dX4_set_55 rfl (lv_at hl 1 rfl) ?_
    refine lv_iload_n hx hb dX4_set_56 rfl (lv_at hl 2 rfl) ?_
    obtain ⟨r15, hc14, hf⟩ := bd1_some hf
    refine cV (X := List.take 0 (wX4 E a m0)) (Y := List.drop 12 (wX4 E a m0)) (w := (wX4 E a m0)) (w' := (wX4 E a m0)) (q0 := 0) lk_X4_50 hx hb hml hown hE hA (c_X4_isPerson l E a m0 p1 r15 hc14) rfl rfl hP hD hS rfl rfl ⟨rfl, rfl, Nat.le_of_ble_eq_true rfl, Nat.le_of_ble_eq_true rfl⟩ hl.1 (As := [.int p1]) (rest := []) rfl rfl (Nat.le_of_ble_eq_true rfl) ⟨Nat.zero_le _, Nat.zero_le _⟩ dX4_set_57 (fun H locs hP hD hS => ?_)
    refine W.eq (g2 := F0 m 60 ls [.int (bI r15)]) rfl ?_
    refine lv_if_eq (tgt := 84) hx hb dX4_set_60 (by decide) (fun c16 => ?_) (fun c16 => ?_)
    · have hf := ip c16 hf
      refine lv_aload_n hx hb dX4_set_84 rfl (lv_at hl 1 rfl) ?_
      refine lv_iconst (v := (0 : Int32)) hx hb dX4_set_85 (by decide) ?_
      obtain ⟨r18, m19, hc17, hf⟩ := bd2_some hf
      refine cV (X := List.take 0 (wX4 E a m0)) (Y := List.drop 12 (wX4 E a m0)) (w := (wX4 E a m0)) (w' := (wX4 E a m19)) (q0 := 0) lk_X4_92 hx hb hml hown hE hA (c_X4_finds l E a m0 (0 : Int32) r18 m19 hc17) rfl rfl hP hD hS rfl rfl ⟨rfl, rfl, Nat.le_of_ble_eq_true rfl, Nat.le_of_ble_eq_true rfl⟩ hl.1 (As := [.int (0 : Int32)]) (rest := []) rfl rfl (Nat.le_of_ble_eq_true rfl) ⟨Nat.zero_le _, Nat.zero_le _⟩ dX4_set_86 (fun H locs hP hD hS => ?_)
      refine W.eq (g2 := F0 m 89 ls [.int r18]) rfl ?_
      obtain ⟨rfl, rfl⟩ := so2 hf
      exact rt_i hx hb hr hlocks hP hD hS dX4_set_89
    · have hf := im c16 hf
      refine lv_iload hx hb dX4_set_63 (lv_at hl 0 rfl) ?_
      refine lv_if_eq (tgt := 84) hx hb dX4_set_65 (by decide) (fun c20 => ?_) (fun c20 => ?_)
      · have hf := ip c20 hf
        refine lv_aload_n hx hb dX4_set_84 rfl (lv_at hl 1 rfl) ?_
        refine lv_iconst (v := (0 : Int32)) hx hb dX4_set_85 (by decide) ?_
        obtain ⟨r22, m23, hc21, hf⟩ := bd2_some hf
        refine cV (X := List.take 0 (wX4 E a m0)) (Y := List.drop 12 (wX4 E a m0)) (w := (wX4 E a m0)) (w' := (wX4 E a m23)) (q0 := 0) lk_X4_92 hx hb hml hown hE hA (c_X4_finds l E a m0 (0 : Int32) r22 m23 hc21) rfl rfl hP hD hS rfl rfl ⟨rfl, rfl, Nat.le_of_ble_eq_true rfl, Nat.le_of_ble_eq_true rfl⟩ hl.1 (As := [.int (0 : Int32)]) (rest := []) rfl rfl (Nat.le_of_ble_eq_true rfl) ⟨Nat.zero_le _, Nat.zero_le _⟩ dX4_set_86 (fun H locs hP hD hS => ?_)
        refine W.eq (g2 := F0 m 89 ls [.int r22]) rfl ?_
        obtain ⟨rfl, rfl⟩ := so2 hf
        exact rt_i hx hb hr hlocks hP hD hS dX4_set_89
      · have hf := im c20 hf
        refine lv_aload_n hx hb dX4_set_68 rfl (lv_at hl 1 rfl) ?_
        refine lv_bipush (v := (35 : Int32)) hx hb dX4_set_69 (by decide) ?_
        refine lv_iconst (v := (4 : Int32)) hx hb dX4_set_71 (by decide) ?_
        refine lv_iload_n hx hb dX4_set_72 rfl (lv_at hl 2 rfl) ?_
        refine lv_imul hx hb dX4_set_73 ?_
        refine lv_iadd hx hb dX4_set_74 ?_
        refine lv_iload_n hx hb dX4_set_75 rfl (lv_at hl 3 rfl) ?_
        refine lv_iadd hx hb dX4_set_76 ?_
        refine lv_iload_n hx hb dX4_set_77 rfl (lv_at hl 4 rfl) ?_
        obtain ⟨r25, m26, hc24, hf⟩ := bd2_some hf
        refine cV (X := List.take 0 (wX4 E a m0)) (Y := List.drop 12 (wX4 E a m0)) (w := (wX4 E a m0)) (w' := (wX4 E a m26)) (q0 := 0) lk_X4_95 hx hb hml hown hE hA (c_X4_becomes l E a m0 (((35 : Int32) + ((4 : Int32) * p1)) + p2) p3 r25 m26 hc24) rfl rfl hP hD hS rfl rfl ⟨rfl, rfl, Nat.le_of_ble_eq_true rfl, Nat.le_of_ble_eq_true rfl⟩ hl.1 (As := [.int (((35 : Int32) + ((4 : Int32) * p1)) + p2), .int p3]) (rest := []) rfl rfl (Nat.le_of_ble_eq_true rfl) ⟨Nat.zero_le _, Nat.zero_le _⟩ dX4_set_78 (fun H locs hP hD hS => ?_)
        refine W.eq (g2 := F0 m 81 ls [.int r25]) rfl ?_
        refine lv_goto (tgt := 89) hx hb dX4_set_81 (by decide) ?_
        obtain ⟨rfl, rfl⟩ := so2 hf
        exact rt_i hx hb hr hlocks hP hD hS dX4_set_89
  refine lv_icmp_ne (tgt := 17) hx hb dX4_set_2 (by decide) (fun c1 => ?_) (fun c1 => ?_)
  · have hq4 := im c1 hq4
    refine lv_iload_n hx hb dX4_set_17 rfl (lv_at hl 2 rfl) ?_
    refine lv_iconst (v := (2 : Int32)) hx hb dX4_set_18 (by decide) ?_
    refine lv_icmp_ne (tgt := 36) hx hb dX4_set_19 (by decide) (fun c5 => ?_) (fun c5 => ?_)
    · have hq4 := im c5 hq4
      refine lv_iload_n hx hb dX4_set_36 rfl (lv_at hl 2 rfl) ?_
      refine lv_iconst (v := (3 : Int32)) hx hb dX4_set_37 (by decide) ?_
      refine lv_icmp_ne (tgt := 52) hx hb dX4_set_38 (by decide) (fun c6 => ?_) (fun c6 => ?_)
      · have hq4 := im c6 hq4
        refine lv_iconst (v := (0 : Int32)) hx hb dX4_set_52 (by decide) ?_
        obtain rfl := so1 hq4
        exact J3 _ _ _ hP hD hS (lv_sub hl [0, 1, 2, 3] rfl)
      · have hq4 := ip c6 hq4
        refine lv_iload_n hx hb dX4_set_41 rfl (lv_at hl 3 rfl) ?_
        obtain ⟨r8, hc7, hq4⟩ := bd1_some hq4
        refine cS (X := List.take 0 (wX4 E a m0)) (Y := List.drop 0 (wX4 E a m0)) (w := (wX4 E a m0)) (w' := (wX4 E a m0)) lk_X4_110 hx hb hml hown hE hA (c_X4_isDone l E p3 r8 hc7) rfl rfl hP hD hS ⟨rfl, rfl, Nat.le_of_ble_eq_true rfl, Nat.le_of_ble_eq_true rfl⟩ hl.1 (As := [.int p3]) (rest := []) rfl rfl (Nat.le_of_ble_eq_true rfl) ⟨Nat.zero_le _, Nat.zero_le _⟩ dX4_set_42 (fun H locs hP hD hS => ?_)
        refine W.eq (g2 := F0 m 45 ls [.int (bI r8)]) rfl ?_
        refine lv_if_eq (tgt := 52) hx hb dX4_set_45 (by decide) (fun c9 => ?_) (fun c9 => ?_)
        · have hq4 := ip c9 hq4
          refine lv_iconst (v := (0 : Int32)) hx hb dX4_set_52 (by decide) ?_
          obtain rfl := so1 hq4
          exact J3 _ _ _ hP hD hS (lv_sub hl [0, 1, 2, 3] rfl)
        · have hq4 := im c9 hq4
          refine lv_iconst (v := (1 : Int32)) hx hb dX4_set_48 (by decide) ?_
          refine lv_goto (tgt := 53) hx hb dX4_set_49 (by decide) ?_
          obtain rfl := so1 hq4
          exact J3 _ _ _ hP hD hS (lv_sub hl [0, 1, 2, 3] rfl)
    · have hq4 := ip c5 hq4
      refine lv_iload_n hx hb dX4_set_22 rfl (lv_at hl 3 rfl) ?_
      refine lv_i2l (v := (p3.toInt64)) hx hb dX4_set_23 rfl ?_
      refine lv_ldc2 (v := (-9999 : Int64)) hx hb hown (hE.w tw_743) dX4_set_24 ?_
      refine lv_ldc2 (v := (9999 : Int64)) hx hb hown (hE.w tw_744) dX4_set_27 ?_
      obtain ⟨r11, hc10, hq4⟩ := bd1_some hq4
      refine cS (X := List.take 0 (wX4 E a m0)) (Y := List.drop 0 (wX4 E a m0)) (w := (wX4 E a m0)) (w' := (wX4 E a m0)) lk_X4_46 hx hb hml hown hE hA (c_X4_in l E (p3.toInt64) (-9999 : Int64) (9999 : Int64) r11 hc10) rfl rfl hP hD hS ⟨rfl, rfl, Nat.le_of_ble_eq_true rfl, Nat.le_of_ble_eq_true rfl⟩ hl.1 (As := [.long (p3.toInt64), .long (-9999 : Int64), .long (9999 : Int64)]) (rest := []) rfl rfl (Nat.le_of_ble_eq_true rfl) ⟨Nat.zero_le _, Nat.zero_le _⟩ dX4_set_30 (fun H locs hP hD hS => ?_)
      refine W.eq (g2 := F0 m 33 ls [.int (bI r11)]) rfl ?_
      refine lv_goto (tgt := 53) hx hb dX4_set_33 (by decide) ?_
      obtain rfl := so1 hq4
      exact J3 _ _ _ hP hD hS (lv_sub hl [0, 1, 2, 3] rfl)
  · have hq4 := ip c1 hq4
    refine lv_iload_n hx hb dX4_set_5 rfl (lv_at hl 3 rfl) ?_
    refine lv_i2l (v := (p3.toInt64)) hx hb dX4_set_6 rfl ?_
    refine lv_lconst (v := (0 : Int64)) hx hb dX4_set_7 (by decide) ?_
    refine lv_ldc2 (v := (99 : Int64)) hx hb hown (hE.w tw_742) dX4_set_8 ?_
    obtain ⟨r13, hc12, hq4⟩ := bd1_some hq4
    refine cS (X := List.take 0 (wX4 E a m0)) (Y := List.drop 0 (wX4 E a m0)) (w := (wX4 E a m0)) (w' := (wX4 E a m0)) lk_X4_46 hx hb hml hown hE hA (c_X4_in l E (p3.toInt64) (0 : Int64) (99 : Int64) r13 hc12) rfl rfl hP hD hS ⟨rfl, rfl, Nat.le_of_ble_eq_true rfl, Nat.le_of_ble_eq_true rfl⟩ hl.1 (As := [.long (p3.toInt64), .long (0 : Int64), .long (99 : Int64)]) (rest := []) rfl rfl (Nat.le_of_ble_eq_true rfl) ⟨Nat.zero_le _, Nat.zero_le _⟩ dX4_set_11 (fun H locs hP hD hS => ?_)
    refine W.eq (g2 := F0 m 14 ls [.int (bI r13)]) rfl ?_
    refine lv_goto (tgt := 53) hx hb dX4_set_14 (by decide) ?_
    obtain rfl := so1 hq4
    exact J3 _ _ _ hP hD hS (lv_sub hl [0, 1, 2, 3] rfl)
def f_X4_turn (m0 : MS) (p1 : Int32) (p2 : Int32) : Option (Int32 × MS) := bd1 (f_X4_isPerson m0 p1) (fun r2 => if (bI r2) = 0 then bd2 (f_X4_finds m0 (0 : Int32)) (fun r5 m6 => some (r5, m6)) else bd1 (f_X4_in (p2.toInt64) (0 : Int64) (5 : Int64)) (fun r8 => if (bI r8) = 0 then bd2 (f_X4_finds m0 (0 : Int32)) (fun r11 m12 => some (r11, m12)) else bd2 (f_X4_becomes m0 ((35 : Int32) + ((4 : Int32) * p1)) p2) (fun r14 m15 => some (r14, m15))))
set_option maxHeartbeats 4000000 in
set_option maxRecDepth 100000 in
theorem c_X4_turn (l : Launch) (E : EV) (a : Nat → Nat) (m0 : MS) (p1 : Int32) (p2 : Int32)  (r : Int32) (m0' : MS) (hf : f_X4_turn m0 p1 p2 = some (r, m0')) : Ct l E yX4_turn cX4_turn 3 ((Option.some FieldType.int)) (rmk 2 46) [.ref (a 0), .int p1, .int p2] (wX4 E a m0) (wX4 E a m0') (some (.int r)) := by
  refine Ct.of (by decide) (Nat.le_of_ble_eq_true rfl) ?_
  intro p e s m below meth c A ls hC hP hD hl
  obtain ⟨hx, hb, hr, hml, hown, hlocks, hE, hA⟩ := hC
  have hts : ∀ w ∈ tbl, w.before [.ref (a 0), .int p1, .int p2].toArray s = true := fun w hw => hE.w hw
  have hS : va_S A s.heap s.heap [] := va_S.rf
  have hl : lv_has ls 3 [(0, .ref (a 0)), (1, .int p1), (2, .int p2)] := hl
  unfold f_X4_turn at hf
  refine lv_aload_n hx hb dX4_turn_0 rfl (lv_at hl 0 rfl) ?_
  refine lv_iload_n hx hb dX4_turn_1 rfl (lv_at hl 1 rfl) ?_
  obtain ⟨r2, hc1, hf⟩ := bd1_some hf
  refine cV (X := List.take 0 (wX4 E a m0)) (Y := List.drop 12 (wX4 E a m0)) (w := (wX4 E a m0)) (w' := (wX4 E a m0)) (q0 := 0) lk_X4_50 hx hb hml hown hE hA (c_X4_isPerson l E a m0 p1 r2 hc1) rfl rfl hP hD hS rfl rfl ⟨rfl, rfl, Nat.le_of_ble_eq_true rfl, Nat.le_of_ble_eq_true rfl⟩ hl.1 (As := [.int p1]) (rest := []) rfl rfl (Nat.le_of_ble_eq_true rfl) ⟨Nat.zero_le _, Nat.zero_le _⟩ dX4_turn_2 (fun H locs hP hD hS => ?_)
  refine W.eq (g2 := F0 m 5 ls [.int (bI r2)]) rfl ?_
  refine lv_if_eq (tgt := 34) hx hb dX4_turn_5 (by decide) (fun c3 => ?_) (fun c3 => ?_)
  · have hf := ip c3 hf
    refine lv_aload_n hx hb dX4_turn_34 rfl (lv_at hl 0 rfl) ?_
    refine lv_iconst (v := (0 : Int32)) hx hb dX4_turn_35 (by decide) ?_
    obtain ⟨r5, m6, hc4, hf⟩ := bd2_some hf
    refine cV (X := List.take 0 (wX4 E a m0)) (Y := List.drop 12 (wX4 E a m0)) (w := (wX4 E a m0)) (w' := (wX4 E a m6)) (q0 := 0) lk_X4_92 hx hb hml hown hE hA (c_X4_finds l E a m0 (0 : Int32) r5 m6 hc4) rfl rfl hP hD hS rfl rfl ⟨rfl, rfl, Nat.le_of_ble_eq_true rfl, Nat.le_of_ble_eq_true rfl⟩ hl.1 (As := [.int (0 : Int32)]) (rest := []) rfl rfl (Nat.le_of_ble_eq_true rfl) ⟨Nat.zero_le _, Nat.zero_le _⟩ dX4_turn_36 (fun H locs hP hD hS => ?_)
    refine W.eq (g2 := F0 m 39 ls [.int r5]) rfl ?_
    obtain ⟨rfl, rfl⟩ := so2 hf
    exact rt_i hx hb hr hlocks hP hD hS dX4_turn_39
  · have hf := im c3 hf
    refine lv_iload_n hx hb dX4_turn_8 rfl (lv_at hl 2 rfl) ?_
    refine lv_i2l (v := (p2.toInt64)) hx hb dX4_turn_9 rfl ?_
    refine lv_lconst (v := (0 : Int64)) hx hb dX4_turn_10 (by decide) ?_
    refine lv_ldc2 (v := (5 : Int64)) hx hb hown (hE.w tw_707) dX4_turn_11 ?_
    obtain ⟨r8, hc7, hf⟩ := bd1_some hf
    refine cS (X := List.take 0 (wX4 E a m0)) (Y := List.drop 0 (wX4 E a m0)) (w := (wX4 E a m0)) (w' := (wX4 E a m0)) lk_X4_46 hx hb hml hown hE hA (c_X4_in l E (p2.toInt64) (0 : Int64) (5 : Int64) r8 hc7) rfl rfl hP hD hS ⟨rfl, rfl, Nat.le_of_ble_eq_true rfl, Nat.le_of_ble_eq_true rfl⟩ hl.1 (As := [.long (p2.toInt64), .long (0 : Int64), .long (5 : Int64)]) (rest := []) rfl rfl (Nat.le_of_ble_eq_true rfl) ⟨Nat.zero_le _, Nat.zero_le _⟩ dX4_turn_14 (fun H locs hP hD hS => ?_)
    refine W.eq (g2 := F0 m 17 ls [.int (bI r8)]) rfl ?_
    refine lv_if_eq (tgt := 34) hx hb dX4_turn_17 (by decide) (fun c9 => ?_) (fun c9 => ?_)
    · have hf := ip c9 hf
      refine lv_aload_n hx hb dX4_turn_34 rfl (lv_at hl 0 rfl) ?_
      refine lv_iconst (v := (0 : Int32)) hx hb dX4_turn_35 (by decide) ?_
      obtain ⟨r11, m12, hc10, hf⟩ := bd2_some hf
      refine cV (X := List.take 0 (wX4 E a m0)) (Y := List.drop 12 (wX4 E a m0)) (w := (wX4 E a m0)) (w' := (wX4 E a m12)) (q0 := 0) lk_X4_92 hx hb hml hown hE hA (c_X4_finds l E a m0 (0 : Int32) r11 m12 hc10) rfl rfl hP hD hS rfl rfl ⟨rfl, rfl, Nat.le_of_ble_eq_true rfl, Nat.le_of_ble_eq_true rfl⟩ hl.1 (As := [.int (0 : Int32)]) (rest := []) rfl rfl (Nat.le_of_ble_eq_true rfl) ⟨Nat.zero_le _, Nat.zero_le _⟩ dX4_turn_36 (fun H locs hP hD hS => ?_)
      refine W.eq (g2 := F0 m 39 ls [.int r11]) rfl ?_
      obtain ⟨rfl, rfl⟩ := so2 hf
      exact rt_i hx hb hr hlocks hP hD hS dX4_turn_39
    · have hf := im c9 hf
      refine lv_aload_n hx hb dX4_turn_20 rfl (lv_at hl 0 rfl) ?_
      refine lv_bipush (v := (35 : Int32)) hx hb dX4_turn_21 (by decide) ?_
      refine lv_iconst (v := (4 : Int32)) hx hb dX4_turn_23 (by decide) ?_
      refine lv_iload_n hx hb dX4_turn_24 rfl (lv_at hl 1 rfl) ?_
      refine lv_imul hx hb dX4_turn_25 ?_
      refine lv_iadd hx hb dX4_turn_26 ?_
      refine lv_iload_n hx hb dX4_turn_27 rfl (lv_at hl 2 rfl) ?_
      obtain ⟨r14, m15, hc13, hf⟩ := bd2_some hf
      refine cV (X := List.take 0 (wX4 E a m0)) (Y := List.drop 12 (wX4 E a m0)) (w := (wX4 E a m0)) (w' := (wX4 E a m15)) (q0 := 0) lk_X4_95 hx hb hml hown hE hA (c_X4_becomes l E a m0 ((35 : Int32) + ((4 : Int32) * p1)) p2 r14 m15 hc13) rfl rfl hP hD hS rfl rfl ⟨rfl, rfl, Nat.le_of_ble_eq_true rfl, Nat.le_of_ble_eq_true rfl⟩ hl.1 (As := [.int ((35 : Int32) + ((4 : Int32) * p1)), .int p2]) (rest := []) rfl rfl (Nat.le_of_ble_eq_true rfl) ⟨Nat.zero_le _, Nat.zero_le _⟩ dX4_turn_28 (fun H locs hP hD hS => ?_)
      refine W.eq (g2 := F0 m 31 ls [.int r14]) rfl ?_
      refine lv_goto (tgt := 39) hx hb dX4_turn_31 (by decide) ?_
      obtain ⟨rfl, rfl⟩ := so2 hf
      exact rt_i hx hb hr hlocks hP hD hS dX4_turn_39
def f_X4_as (m0 : MS) (p1 : Int32) (p2 : Int32) : Option (Int32 × MS) := bd1 (f_X4_isPerson m0 p1) (fun r2 => if (bI r2) = 0 then bd2 (f_X4_finds m0 (0 : Int32)) (fun r5 m6 => some (r5, m6)) else bd1 (f_X4_in (p2.toInt64) (0 : Int64) (5 : Int64)) (fun r8 => if (bI r8) = 0 then bd2 (f_X4_finds m0 (0 : Int32)) (fun r29 m30 => some (r29, m30)) else bd1 (f_X4_its m0 p1 (0 : Int32)) (fun r11 => if p2 = 0 then bd1 (f_X4_its m0 p1 (1 : Int32)) (fun r14 => some (r14, m0)) else if r11 = p2 then bd1 (f_X4_its m0 p1 (1 : Int32)) (fun r17 => some (r17, m0)) else if r11 = (p2 + (3 : Int32)) then if (3 : Int32) ≤ p2 then bd2 (f_X4_finds m0 (2 : Int32)) (fun r24 m25 => some (r24, m25)) else bd1 (f_X4_its m0 p1 (1 : Int32)) (fun r27 => some (r27, m0)) else bd2 (f_X4_finds m0 (2 : Int32)) (fun r20 m21 => some (r20, m21)))))
set_option maxHeartbeats 4000000 in
set_option maxRecDepth 100000 in
theorem c_X4_as (l : Launch) (E : EV) (a : Nat → Nat) (m0 : MS) (p1 : Int32) (p2 : Int32)  (r : Int32) (m0' : MS) (hf : f_X4_as m0 p1 p2 = some (r, m0')) : Ct l E yX4_as cX4_as 4 ((Option.some FieldType.int)) (rmk 2 46) [.ref (a 0), .int p1, .int p2] (wX4 E a m0) (wX4 E a m0') (some (.int r)) := by
  refine Ct.of (by decide) (Nat.le_of_ble_eq_true rfl) ?_
  intro p e s m below meth c A ls hC hP hD hl
  obtain ⟨hx, hb, hr, hml, hown, hlocks, hE, hA⟩ := hC
  have hts : ∀ w ∈ tbl, w.before [.ref (a 0), .int p1, .int p2].toArray s = true := fun w hw => hE.w hw
  have hS : va_S A s.heap s.heap [] := va_S.rf
  have hl : lv_has ls 4 [(0, .ref (a 0)), (1, .int p1), (2, .int p2)] := hl
  unfold f_X4_as at hf
  refine lv_aload_n hx hb dX4_as_0 rfl (lv_at hl 0 rfl) ?_
  refine lv_iload_n hx hb dX4_as_1 rfl (lv_at hl 1 rfl) ?_
  obtain ⟨r2, hc1, hf⟩ := bd1_some hf
  refine cV (X := List.take 0 (wX4 E a m0)) (Y := List.drop 12 (wX4 E a m0)) (w := (wX4 E a m0)) (w' := (wX4 E a m0)) (q0 := 0) lk_X4_50 hx hb hml hown hE hA (c_X4_isPerson l E a m0 p1 r2 hc1) rfl rfl hP hD hS rfl rfl ⟨rfl, rfl, Nat.le_of_ble_eq_true rfl, Nat.le_of_ble_eq_true rfl⟩ hl.1 (As := [.int p1]) (rest := []) rfl rfl (Nat.le_of_ble_eq_true rfl) ⟨Nat.zero_le _, Nat.zero_le _⟩ dX4_as_2 (fun H locs hP hD hS => ?_)
  refine W.eq (g2 := F0 m 5 ls [.int (bI r2)]) rfl ?_
  refine lv_if_eq (tgt := 20) hx hb dX4_as_5 (by decide) (fun c3 => ?_) (fun c3 => ?_)
  · have hf := ip c3 hf
    refine lv_aload_n hx hb dX4_as_20 rfl (lv_at hl 0 rfl) ?_
    refine lv_iconst (v := (0 : Int32)) hx hb dX4_as_21 (by decide) ?_
    obtain ⟨r5, m6, hc4, hf⟩ := bd2_some hf
    refine cV (X := List.take 0 (wX4 E a m0)) (Y := List.drop 12 (wX4 E a m0)) (w := (wX4 E a m0)) (w' := (wX4 E a m6)) (q0 := 0) lk_X4_92 hx hb hml hown hE hA (c_X4_finds l E a m0 (0 : Int32) r5 m6 hc4) rfl rfl hP hD hS rfl rfl ⟨rfl, rfl, Nat.le_of_ble_eq_true rfl, Nat.le_of_ble_eq_true rfl⟩ hl.1 (As := [.int (0 : Int32)]) (rest := []) rfl rfl (Nat.le_of_ble_eq_true rfl) ⟨Nat.zero_le _, Nat.zero_le _⟩ dX4_as_22 (fun H locs hP hD hS => ?_)
    refine W.eq (g2 := F0 m 25 ls [.int r5]) rfl ?_
    obtain ⟨rfl, rfl⟩ := so2 hf
    exact rt_i hx hb hr hlocks hP hD hS dX4_as_25
  · have hf := im c3 hf
    refine lv_iload_n hx hb dX4_as_8 rfl (lv_at hl 2 rfl) ?_
    refine lv_i2l (v := (p2.toInt64)) hx hb dX4_as_9 rfl ?_
    refine lv_lconst (v := (0 : Int64)) hx hb dX4_as_10 (by decide) ?_
    refine lv_ldc2 (v := (5 : Int64)) hx hb hown (hE.w tw_707) dX4_as_11 ?_
    obtain ⟨r8, hc7, hf⟩ := bd1_some hf
    refine cS (X := List.take 0 (wX4 E a m0)) (Y := List.drop 0 (wX4 E a m0)) (w := (wX4 E a m0)) (w' := (wX4 E a m0)) lk_X4_46 hx hb hml hown hE hA (c_X4_in l E (p2.toInt64) (0 : Int64) (5 : Int64) r8 hc7) rfl rfl hP hD hS ⟨rfl, rfl, Nat.le_of_ble_eq_true rfl, Nat.le_of_ble_eq_true rfl⟩ hl.1 (As := [.long (p2.toInt64), .long (0 : Int64), .long (5 : Int64)]) (rest := []) rfl rfl (Nat.le_of_ble_eq_true rfl) ⟨Nat.zero_le _, Nat.zero_le _⟩ dX4_as_14 (fun H locs hP hD hS => ?_)
    refine W.eq (g2 := F0 m 17 ls [.int (bI r8)]) rfl ?_
    refine lv_if_ne (tgt := 26) hx hb dX4_as_17 (by decide) (fun c9 => ?_) (fun c9 => ?_)
    · have hf := im c9 hf
      refine lv_aload_n hx hb dX4_as_26 rfl (lv_at hl 0 rfl) ?_
      refine lv_iload_n hx hb dX4_as_27 rfl (lv_at hl 1 rfl) ?_
      refine lv_iconst (v := (0 : Int32)) hx hb dX4_as_28 (by decide) ?_
      obtain ⟨r11, hc10, hf⟩ := bd1_some hf
      refine cV (X := List.take 0 (wX4 E a m0)) (Y := List.drop 12 (wX4 E a m0)) (w := (wX4 E a m0)) (w' := (wX4 E a m0)) (q0 := 0) lk_X4_54 hx hb hml hown hE hA (c_X4_its l E a m0 p1 (0 : Int32) r11 hc10) rfl rfl hP hD hS rfl rfl ⟨rfl, rfl, Nat.le_of_ble_eq_true rfl, Nat.le_of_ble_eq_true rfl⟩ hl.1 (As := [.int p1, .int (0 : Int32)]) (rest := []) rfl rfl (Nat.le_of_ble_eq_true rfl) ⟨Nat.zero_le _, Nat.zero_le _⟩ dX4_as_29 (fun H locs hP hD hS => ?_)
      refine W.eq (g2 := F0 m 32 ls [.int r11]) rfl ?_
      refine lv_istore_n (lv' := [(3, .int r11), (0, .ref (a 0)), (1, .int p1), (2, .int p2)]) hx hb dX4_as_32 rfl hl (by decide) rfl (fun ls hl => ?_)
      refine lv_iload_n hx hb dX4_as_33 rfl (lv_at hl 3 rfl) ?_
      refine lv_if_eq (tgt := 54) hx hb dX4_as_34 (by decide) (fun c12 => ?_) (fun c12 => ?_)
      · have hf := ip c12 hf
        refine lv_aload_n hx hb dX4_as_54 rfl (lv_at hl 1 rfl) ?_
        refine lv_iload_n hx hb dX4_as_55 rfl (lv_at hl 2 rfl) ?_
        refine lv_iconst (v := (1 : Int32)) hx hb dX4_as_56 (by decide) ?_
        obtain ⟨r14, hc13, hf⟩ := bd1_some hf
        refine cV (X := List.take 0 (wX4 E a m0)) (Y := List.drop 12 (wX4 E a m0)) (w := (wX4 E a m0)) (w' := (wX4 E a m0)) (q0 := 0) lk_X4_54 hx hb hml hown hE hA (c_X4_its l E a m0 p1 (1 : Int32) r14 hc13) rfl rfl hP hD hS rfl rfl ⟨rfl, rfl, Nat.le_of_ble_eq_true rfl, Nat.le_of_ble_eq_true rfl⟩ hl.1 (As := [.int p1, .int (1 : Int32)]) (rest := []) rfl rfl (Nat.le_of_ble_eq_true rfl) ⟨Nat.zero_le _, Nat.zero_le _⟩ dX4_as_57 (fun H locs hP hD hS => ?_)
        refine W.eq (g2 := F0 m 60 ls [.int r14]) rfl ?_
        refine lv_goto (tgt := 68) hx hb dX4_as_60 (by decide) ?_
        obtain ⟨rfl, rfl⟩ := so2 hf
        exact rt_i hx hb hr hlocks hP hD hS dX4_as_68
      · have hf := im c12 hf
        refine lv_iload_n hx hb dX4_as_37 rfl (lv_at hl 0 rfl) ?_
        refine lv_iload_n hx hb dX4_as_38 rfl (lv_at hl 3 rfl) ?_
        refine lv_icmp_eq (tgt := 54) hx hb dX4_as_39 (by decide) (fun c15 => ?_) (fun c15 => ?_)
        · have hf := ip c15 hf
          refine lv_aload_n hx hb dX4_as_54 rfl (lv_at hl 1 rfl) ?_
          refine lv_iload_n hx hb dX4_as_55 rfl (lv_at hl 2 rfl) ?_
          refine lv_iconst (v := (1 : Int32)) hx hb dX4_as_56 (by decide) ?_
          obtain ⟨r17, hc16, hf⟩ := bd1_some hf
          refine cV (X := List.take 0 (wX4 E a m0)) (Y := List.drop 12 (wX4 E a m0)) (w := (wX4 E a m0)) (w' := (wX4 E a m0)) (q0 := 0) lk_X4_54 hx hb hml hown hE hA (c_X4_its l E a m0 p1 (1 : Int32) r17 hc16) rfl rfl hP hD hS rfl rfl ⟨rfl, rfl, Nat.le_of_ble_eq_true rfl, Nat.le_of_ble_eq_true rfl⟩ hl.1 (As := [.int p1, .int (1 : Int32)]) (rest := []) rfl rfl (Nat.le_of_ble_eq_true rfl) ⟨Nat.zero_le _, Nat.zero_le _⟩ dX4_as_57 (fun H locs hP hD hS => ?_)
          refine W.eq (g2 := F0 m 60 ls [.int r17]) rfl ?_
          refine lv_goto (tgt := 68) hx hb dX4_as_60 (by decide) ?_
          obtain ⟨rfl, rfl⟩ := so2 hf
          exact rt_i hx hb hr hlocks hP hD hS dX4_as_68
        · have hf := im c15 hf
          refine lv_iload_n hx hb dX4_as_42 rfl (lv_at hl 0 rfl) ?_
          refine lv_iload_n hx hb dX4_as_43 rfl (lv_at hl 3 rfl) ?_
          refine lv_iconst (v := (3 : Int32)) hx hb dX4_as_44 (by decide) ?_
          refine lv_iadd hx hb dX4_as_45 ?_
          refine lv_icmp_ne (tgt := 63) hx hb dX4_as_46 (by decide) (fun c18 => ?_) (fun c18 => ?_)
          · have hf := im c18 hf
            refine lv_aload_n hx hb dX4_as_63 rfl (lv_at hl 1 rfl) ?_
            refine lv_iconst (v := (2 : Int32)) hx hb dX4_as_64 (by decide) ?_
            obtain ⟨r20, m21, hc19, hf⟩ := bd2_some hf
            refine cV (X := List.take 0 (wX4 E a m0)) (Y := List.drop 12 (wX4 E a m0)) (w := (wX4 E a m0)) (w' := (wX4 E a m21)) (q0 := 0) lk_X4_92 hx hb hml hown hE hA (c_X4_finds l E a m0 (2 : Int32) r20 m21 hc19) rfl rfl hP hD hS rfl rfl ⟨rfl, rfl, Nat.le_of_ble_eq_true rfl, Nat.le_of_ble_eq_true rfl⟩ hl.1 (As := [.int (2 : Int32)]) (rest := []) rfl rfl (Nat.le_of_ble_eq_true rfl) ⟨Nat.zero_le _, Nat.zero_le _⟩ dX4_as_65 (fun H locs hP hD hS => ?_)
            refine W.eq (g2 := F0 m 68 ls [.int r20]) rfl ?_
            obtain ⟨rfl, rfl⟩ := so2 hf
            exact rt_i hx hb hr hlocks hP hD hS dX4_as_68
          · have hf := ip c18 hf
            refine lv_iload_n hx hb dX4_as_49 rfl (lv_at hl 3 rfl) ?_
            refine lv_iconst (v := (3 : Int32)) hx hb dX4_as_50 (by decide) ?_
            refine lv_icmp_ge (tgt := 63) hx hb dX4_as_51 (by decide) (fun c22 => ?_) (fun c22 => ?_)
            · have hf := ip c22 hf
              refine lv_aload_n hx hb dX4_as_63 rfl (lv_at hl 1 rfl) ?_
              refine lv_iconst (v := (2 : Int32)) hx hb dX4_as_64 (by decide) ?_
              obtain ⟨r24, m25, hc23, hf⟩ := bd2_some hf
              refine cV (X := List.take 0 (wX4 E a m0)) (Y := List.drop 12 (wX4 E a m0)) (w := (wX4 E a m0)) (w' := (wX4 E a m25)) (q0 := 0) lk_X4_92 hx hb hml hown hE hA (c_X4_finds l E a m0 (2 : Int32) r24 m25 hc23) rfl rfl hP hD hS rfl rfl ⟨rfl, rfl, Nat.le_of_ble_eq_true rfl, Nat.le_of_ble_eq_true rfl⟩ hl.1 (As := [.int (2 : Int32)]) (rest := []) rfl rfl (Nat.le_of_ble_eq_true rfl) ⟨Nat.zero_le _, Nat.zero_le _⟩ dX4_as_65 (fun H locs hP hD hS => ?_)
              refine W.eq (g2 := F0 m 68 ls [.int r24]) rfl ?_
              obtain ⟨rfl, rfl⟩ := so2 hf
              exact rt_i hx hb hr hlocks hP hD hS dX4_as_68
            · have hf := im c22 hf
              refine lv_aload_n hx hb dX4_as_54 rfl (lv_at hl 1 rfl) ?_
              refine lv_iload_n hx hb dX4_as_55 rfl (lv_at hl 2 rfl) ?_
              refine lv_iconst (v := (1 : Int32)) hx hb dX4_as_56 (by decide) ?_
              obtain ⟨r27, hc26, hf⟩ := bd1_some hf
              refine cV (X := List.take 0 (wX4 E a m0)) (Y := List.drop 12 (wX4 E a m0)) (w := (wX4 E a m0)) (w' := (wX4 E a m0)) (q0 := 0) lk_X4_54 hx hb hml hown hE hA (c_X4_its l E a m0 p1 (1 : Int32) r27 hc26) rfl rfl hP hD hS rfl rfl ⟨rfl, rfl, Nat.le_of_ble_eq_true rfl, Nat.le_of_ble_eq_true rfl⟩ hl.1 (As := [.int p1, .int (1 : Int32)]) (rest := []) rfl rfl (Nat.le_of_ble_eq_true rfl) ⟨Nat.zero_le _, Nat.zero_le _⟩ dX4_as_57 (fun H locs hP hD hS => ?_)
              refine W.eq (g2 := F0 m 60 ls [.int r27]) rfl ?_
              refine lv_goto (tgt := 68) hx hb dX4_as_60 (by decide) ?_
              obtain ⟨rfl, rfl⟩ := so2 hf
              exact rt_i hx hb hr hlocks hP hD hS dX4_as_68
    · have hf := ip c9 hf
      refine lv_aload_n hx hb dX4_as_20 rfl (lv_at hl 0 rfl) ?_
      refine lv_iconst (v := (0 : Int32)) hx hb dX4_as_21 (by decide) ?_
      obtain ⟨r29, m30, hc28, hf⟩ := bd2_some hf
      refine cV (X := List.take 0 (wX4 E a m0)) (Y := List.drop 12 (wX4 E a m0)) (w := (wX4 E a m0)) (w' := (wX4 E a m30)) (q0 := 0) lk_X4_92 hx hb hml hown hE hA (c_X4_finds l E a m0 (0 : Int32) r29 m30 hc28) rfl rfl hP hD hS rfl rfl ⟨rfl, rfl, Nat.le_of_ble_eq_true rfl, Nat.le_of_ble_eq_true rfl⟩ hl.1 (As := [.int (0 : Int32)]) (rest := []) rfl rfl (Nat.le_of_ble_eq_true rfl) ⟨Nat.zero_le _, Nat.zero_le _⟩ dX4_as_22 (fun H locs hP hD hS => ?_)
      refine W.eq (g2 := F0 m 25 ls [.int r29]) rfl ?_
      obtain ⟨rfl, rfl⟩ := so2 hf
      exact rt_i hx hb hr hlocks hP hD hS dX4_as_25
def lp_X4_swaps_2 (p1 : Int32) (p2 : Int32) : Nat → (Int32) → (MS) → Option (MS)
  | 0, _, _ => none
  | k_1 + 1, v3_1, m0_1 => if (4 : Int32) ≤ v3_1 then some (m0_1) else bd1 (f_X4_its m0_1 p1 v3_1) (fun r4 => bd1 (f_X4_its m0_1 p2 v3_1) (fun r6 => bd1 (f_X4_sets m0_1 p1 v3_1 r6) (fun m8 => bd1 (f_X4_sets m8 p2 v3_1 r4) (fun m10 => lp_X4_swaps_2 p1 p2 k_1 (v3_1 + (1 : Int32)) m10))))
def f_X4_swaps (m0 : MS) (p1 : Int32) (p2 : Int32) : Option (MS) := lp_X4_swaps_2 p1 p2 FU (0 : Int32) m0
set_option maxHeartbeats 4000000 in
set_option maxRecDepth 100000 in
theorem c_X4_swaps (l : Launch) (E : EV) (a : Nat → Nat) (m0 : MS) (p1 : Int32) (p2 : Int32)  (m0' : MS) (hf : f_X4_swaps m0 p1 p2 = some m0') : Ct l E yX4_swaps cX4_swaps 5 (none) (rmk 1 23) [.ref (a 0), .int p1, .int p2] (wX4 E a m0) (wX4 E a m0') none := by
  refine Ct.of (by decide) (Nat.le_of_ble_eq_true rfl) ?_
  intro p e s m below meth c A ls hC hP hD hl
  obtain ⟨hx, hb, hr, hml, hown, hlocks, hE, hA⟩ := hC
  have hts : ∀ w ∈ tbl, w.before [.ref (a 0), .int p1, .int p2].toArray s = true := fun w hw => hE.w hw
  have hS : va_S A s.heap s.heap [] := va_S.rf
  have hl : lv_has ls 5 [(0, .ref (a 0)), (1, .int p1), (2, .int p2)] := hl
  unfold f_X4_swaps at hf
  refine lv_iconst (v := (0 : Int32)) hx hb dX4_swaps_0 (by decide) ?_
  refine lv_istore_n (lv' := [(3, .int (0 : Int32)), (0, .ref (a 0)), (1, .int p1), (2, .int p2)]) hx hb dX4_swaps_1 rfl hl (by decide) rfl (fun ls hl => ?_)
  have L_1 : ∀ (k_1 : Nat) (v3_1 : Int32) (m0_1 : MS), lp_X4_swaps_2 p1 p2 k_1 v3_1 m0_1 = some m0' → ∀ (H : Heap) (locs : List Loc) (ls : Array Slot), va_P E.1 vwCl (wX4 E a m0_1) H → va_D A (wX4 E a m0_1) → va_S A s.heap H locs → lv_has ls 5 [(3, .int v3_1), (0, .ref (a 0)), (1, .int p1), (2, .int p2)] → W p l e (rmk 1 23) s m [.ref (a 0), .int p1, .int p2].toArray below meth c H locs 0 0 (MQ below (Qct E A (wX4 E a m0') none) [.ref (a 0), .int p1, .int p2].toArray s 0 0 A) (F0 m 2 ls []) := by
    intro k_1
    induction k_1 with
    | zero =>
      intro v3_1 m0_1 hf
      rw [lp_X4_swaps_2] at hf
      cases hf
    | succ k_1 ih_1 =>
      intro v3_1 m0_1 hf H locs ls hP hD hS hl
      rw [lp_X4_swaps_2] at hf
      refine lv_iload_n hx hb dX4_swaps_2 rfl (lv_at hl 0 rfl) ?_
      refine lv_iconst (v := (4 : Int32)) hx hb dX4_swaps_3 (by decide) ?_
      refine lv_icmp_ge (tgt := 41) hx hb dX4_swaps_4 (by decide) (fun c2 => ?_) (fun c2 => ?_)
      · have hf := ip c2 hf
        obtain rfl := so1 hf
        exact rt_v hx hb hr hlocks hP hD hS dX4_swaps_41
      · have hf := im c2 hf
        refine lv_aload_n hx hb dX4_swaps_7 rfl (lv_at hl 1 rfl) ?_
        refine lv_iload_n hx hb dX4_swaps_8 rfl (lv_at hl 2 rfl) ?_
        refine lv_iload_n hx hb dX4_swaps_9 rfl (lv_at hl 0 rfl) ?_
        obtain ⟨r4, hc3, hf⟩ := bd1_some hf
        refine cV (X := List.take 0 (wX4 E a m0_1)) (Y := List.drop 12 (wX4 E a m0_1)) (w := (wX4 E a m0_1)) (w' := (wX4 E a m0_1)) (q0 := 0) lk_X4_54 hx hb hml hown hE hA (c_X4_its l E a m0_1 p1 v3_1 r4 hc3) rfl rfl hP hD hS rfl rfl ⟨rfl, rfl, Nat.le_of_ble_eq_true rfl, Nat.le_of_ble_eq_true rfl⟩ hl.1 (As := [.int p1, .int v3_1]) (rest := []) rfl rfl (Nat.le_of_ble_eq_true rfl) ⟨Nat.zero_le _, Nat.zero_le _⟩ dX4_swaps_10 (fun H locs hP hD hS => ?_)
        refine W.eq (g2 := F0 m 13 ls [.int r4]) rfl ?_
        refine lv_istore (lv' := [(4, .int r4), (3, .int v3_1), (0, .ref (a 0)), (1, .int p1), (2, .int p2)]) hx hb dX4_swaps_13 hl (by decide) rfl (fun ls hl => ?_)
        refine lv_aload_n hx hb dX4_swaps_15 rfl (lv_at hl 2 rfl) ?_
        refine lv_iload_n hx hb dX4_swaps_16 rfl (lv_at hl 3 rfl) ?_
        refine lv_iload_n hx hb dX4_swaps_17 rfl (lv_at hl 1 rfl) ?_
        refine lv_aload_n hx hb dX4_swaps_18 rfl (lv_at hl 2 rfl) ?_
        refine lv_iload_n hx hb dX4_swaps_19 rfl (lv_at hl 4 rfl) ?_
        refine lv_iload_n hx hb dX4_swaps_20 rfl (lv_at hl 1 rfl) ?_
        obtain ⟨r6, hc5, hf⟩ := bd1_some hf
        refine cV (X := List.take 0 (wX4 E a m0_1)) (Y := List.drop 12 (wX4 E a m0_1)) (w := (wX4 E a m0_1)) (w' := (wX4 E a m0_1)) (q0 := 0) lk_X4_54 hx hb hml hown hE hA (c_X4_its l E a m0_1 p2 v3_1 r6 hc5) rfl rfl hP hD hS rfl rfl ⟨rfl, rfl, Nat.le_of_ble_eq_true rfl, Nat.le_of_ble_eq_true rfl⟩ hl.1 (As := [.int p2, .int v3_1]) (rest := [.int v3_1, .int p1, .ref (a 0)]) rfl rfl (Nat.le_of_ble_eq_true rfl) ⟨Nat.zero_le _, Nat.zero_le _⟩ dX4_swaps_21 (fun H locs hP hD hS => ?_)
        refine W.eq (g2 := F0 m 24 ls [.int r6, .int v3_1, .int p1, .ref (a 0)]) rfl ?_
        obtain ⟨m8, hc7, hf⟩ := bd1_some hf
        refine cV (X := List.take 0 (wX4 E a m0_1)) (Y := List.drop 12 (wX4 E a m0_1)) (w := (wX4 E a m0_1)) (w' := (wX4 E a m8)) (q0 := 0) lk_X4_73 hx hb hml hown hE hA (c_X4_sets l E a m0_1 p1 v3_1 r6 m8 hc7) rfl rfl hP hD hS rfl rfl ⟨rfl, rfl, Nat.le_of_ble_eq_true rfl, Nat.le_of_ble_eq_true rfl⟩ hl.1 (As := [.int p1, .int v3_1, .int r6]) (rest := []) rfl rfl (Nat.le_of_ble_eq_true rfl) ⟨Nat.zero_le _, Nat.zero_le _⟩ dX4_swaps_24 (fun H locs hP hD hS => ?_)
        refine W.eq (g2 := F0 m 27 ls []) rfl ?_
        refine lv_aload_n hx hb dX4_swaps_27 rfl (lv_at hl 2 rfl) ?_
        refine lv_iload_n hx hb dX4_swaps_28 rfl (lv_at hl 4 rfl) ?_
        refine lv_iload_n hx hb dX4_swaps_29 rfl (lv_at hl 1 rfl) ?_
        refine lv_iload hx hb dX4_swaps_30 (lv_at hl 0 rfl) ?_
        obtain ⟨m10, hc9, hf⟩ := bd1_some hf
        refine cV (X := List.take 0 (wX4 E a m8)) (Y := List.drop 12 (wX4 E a m8)) (w := (wX4 E a m8)) (w' := (wX4 E a m10)) (q0 := 0) lk_X4_73 hx hb hml hown hE hA (c_X4_sets l E a m8 p2 v3_1 r4 m10 hc9) rfl rfl hP hD hS rfl rfl ⟨rfl, rfl, Nat.le_of_ble_eq_true rfl, Nat.le_of_ble_eq_true rfl⟩ hl.1 (As := [.int p2, .int v3_1, .int r4]) (rest := []) rfl rfl (Nat.le_of_ble_eq_true rfl) ⟨Nat.zero_le _, Nat.zero_le _⟩ dX4_swaps_32 (fun H locs hP hD hS => ?_)
        refine W.eq (g2 := F0 m 35 ls []) rfl ?_
        refine lv_iinc (v := (v3_1 + (1 : Int32))) (lv' := [(3, .int (v3_1 + (1 : Int32))), (4, .int r4), (0, .ref (a 0)), (1, .int p1), (2, .int p2)]) hx hb dX4_swaps_35 hl (k := 1) rfl rfl (by decide) rfl (fun ls hl => ?_)
        refine lv_goto (tgt := 2) hx hb dX4_swaps_38 (by decide) ?_
        exact ih_1 _ _ hf _ _ _ hP hD hS (lv_sub hl [0, 2, 3, 4] rfl)
  exact L_1 _ _ _ hf _ _ _ hP hD hS (lv_sub hl [0, 1, 2, 3] rfl)
def f_X4_swap (m0 : MS) (p1 : Int32) (p2 : Int32) : Option (Int32 × MS) := bd1 (f_X4_isPerson m0 p1) (fun r2 => if (bI r2) = 0 then bd2 (f_X4_finds m0 (0 : Int32)) (fun r5 m6 => some (r5, m6)) else bd1 (f_X4_isPerson m0 p2) (fun r8 => if (bI r8) = 0 then bd2 (f_X4_finds m0 (0 : Int32)) (fun r11 m12 => some (r11, m12)) else if p1 = p2 then bd2 (f_X4_finds m0 (0 : Int32)) (fun r17 m18 => some (r17, m18)) else bd1 (f_X4_swaps m0 p1 p2) (fun m15 => some ((1 : Int32), m15))))
set_option maxHeartbeats 4000000 in
set_option maxRecDepth 100000 in
theorem c_X4_swap (l : Launch) (E : EV) (a : Nat → Nat) (m0 : MS) (p1 : Int32) (p2 : Int32)  (r : Int32) (m0' : MS) (hf : f_X4_swap m0 p1 p2 = some (r, m0')) : Ct l E yX4_swap cX4_swap 3 ((Option.some FieldType.int)) (rmk 2 47) [.ref (a 0), .int p1, .int p2] (wX4 E a m0) (wX4 E a m0') (some (.int r)) := by
  refine Ct.of (by decide) (Nat.le_of_ble_eq_true rfl) ?_
  intro p e s m below meth c A ls hC hP hD hl
  obtain ⟨hx, hb, hr, hml, hown, hlocks, hE, hA⟩ := hC
  have hts : ∀ w ∈ tbl, w.before [.ref (a 0), .int p1, .int p2].toArray s = true := fun w hw => hE.w hw
  have hS : va_S A s.heap s.heap [] := va_S.rf
  have hl : lv_has ls 3 [(0, .ref (a 0)), (1, .int p1), (2, .int p2)] := hl
  unfold f_X4_swap at hf
  refine lv_aload_n hx hb dX4_swap_0 rfl (lv_at hl 0 rfl) ?_
  refine lv_iload_n hx hb dX4_swap_1 rfl (lv_at hl 1 rfl) ?_
  obtain ⟨r2, hc1, hf⟩ := bd1_some hf
  refine cV (X := List.take 0 (wX4 E a m0)) (Y := List.drop 12 (wX4 E a m0)) (w := (wX4 E a m0)) (w' := (wX4 E a m0)) (q0 := 0) lk_X4_50 hx hb hml hown hE hA (c_X4_isPerson l E a m0 p1 r2 hc1) rfl rfl hP hD hS rfl rfl ⟨rfl, rfl, Nat.le_of_ble_eq_true rfl, Nat.le_of_ble_eq_true rfl⟩ hl.1 (As := [.int p1]) (rest := []) rfl rfl (Nat.le_of_ble_eq_true rfl) ⟨Nat.zero_le _, Nat.zero_le _⟩ dX4_swap_2 (fun H locs hP hD hS => ?_)
  refine W.eq (g2 := F0 m 5 ls [.int (bI r2)]) rfl ?_
  refine lv_if_eq (tgt := 21) hx hb dX4_swap_5 (by decide) (fun c3 => ?_) (fun c3 => ?_)
  · have hf := ip c3 hf
    refine lv_aload_n hx hb dX4_swap_21 rfl (lv_at hl 0 rfl) ?_
    refine lv_iconst (v := (0 : Int32)) hx hb dX4_swap_22 (by decide) ?_
    obtain ⟨r5, m6, hc4, hf⟩ := bd2_some hf
    refine cV (X := List.take 0 (wX4 E a m0)) (Y := List.drop 12 (wX4 E a m0)) (w := (wX4 E a m0)) (w' := (wX4 E a m6)) (q0 := 0) lk_X4_92 hx hb hml hown hE hA (c_X4_finds l E a m0 (0 : Int32) r5 m6 hc4) rfl rfl hP hD hS rfl rfl ⟨rfl, rfl, Nat.le_of_ble_eq_true rfl, Nat.le_of_ble_eq_true rfl⟩ hl.1 (As := [.int (0 : Int32)]) (rest := []) rfl rfl (Nat.le_of_ble_eq_true rfl) ⟨Nat.zero_le _, Nat.zero_le _⟩ dX4_swap_23 (fun H locs hP hD hS => ?_)
    refine W.eq (g2 := F0 m 26 ls [.int r5]) rfl ?_
    obtain ⟨rfl, rfl⟩ := so2 hf
    exact rt_i hx hb hr hlocks hP hD hS dX4_swap_26
  · have hf := im c3 hf
    refine lv_aload_n hx hb dX4_swap_8 rfl (lv_at hl 0 rfl) ?_
    refine lv_iload_n hx hb dX4_swap_9 rfl (lv_at hl 2 rfl) ?_
    obtain ⟨r8, hc7, hf⟩ := bd1_some hf
    refine cV (X := List.take 0 (wX4 E a m0)) (Y := List.drop 12 (wX4 E a m0)) (w := (wX4 E a m0)) (w' := (wX4 E a m0)) (q0 := 0) lk_X4_50 hx hb hml hown hE hA (c_X4_isPerson l E a m0 p2 r8 hc7) rfl rfl hP hD hS rfl rfl ⟨rfl, rfl, Nat.le_of_ble_eq_true rfl, Nat.le_of_ble_eq_true rfl⟩ hl.1 (As := [.int p2]) (rest := []) rfl rfl (Nat.le_of_ble_eq_true rfl) ⟨Nat.zero_le _, Nat.zero_le _⟩ dX4_swap_10 (fun H locs hP hD hS => ?_)
    refine W.eq (g2 := F0 m 13 ls [.int (bI r8)]) rfl ?_
    refine lv_if_eq (tgt := 21) hx hb dX4_swap_13 (by decide) (fun c9 => ?_) (fun c9 => ?_)
    · have hf := ip c9 hf
      refine lv_aload_n hx hb dX4_swap_21 rfl (lv_at hl 0 rfl) ?_
      refine lv_iconst (v := (0 : Int32)) hx hb dX4_swap_22 (by decide) ?_
      obtain ⟨r11, m12, hc10, hf⟩ := bd2_some hf
      refine cV (X := List.take 0 (wX4 E a m0)) (Y := List.drop 12 (wX4 E a m0)) (w := (wX4 E a m0)) (w' := (wX4 E a m12)) (q0 := 0) lk_X4_92 hx hb hml hown hE hA (c_X4_finds l E a m0 (0 : Int32) r11 m12 hc10) rfl rfl hP hD hS rfl rfl ⟨rfl, rfl, Nat.le_of_ble_eq_true rfl, Nat.le_of_ble_eq_true rfl⟩ hl.1 (As := [.int (0 : Int32)]) (rest := []) rfl rfl (Nat.le_of_ble_eq_true rfl) ⟨Nat.zero_le _, Nat.zero_le _⟩ dX4_swap_23 (fun H locs hP hD hS => ?_)
      refine W.eq (g2 := F0 m 26 ls [.int r11]) rfl ?_
      obtain ⟨rfl, rfl⟩ := so2 hf
      exact rt_i hx hb hr hlocks hP hD hS dX4_swap_26
    · have hf := im c9 hf
      refine lv_iload_n hx hb dX4_swap_16 rfl (lv_at hl 1 rfl) ?_
      refine lv_iload_n hx hb dX4_swap_17 rfl (lv_at hl 2 rfl) ?_
      refine lv_icmp_ne (tgt := 27) hx hb dX4_swap_18 (by decide) (fun c13 => ?_) (fun c13 => ?_)
      · have hf := im c13 hf
        refine lv_aload_n hx hb dX4_swap_27 rfl (lv_at hl 0 rfl) ?_
        refine lv_iload_n hx hb dX4_swap_28 rfl (lv_at hl 1 rfl) ?_
        refine lv_iload_n hx hb dX4_swap_29 rfl (lv_at hl 2 rfl) ?_
        obtain ⟨m15, hc14, hf⟩ := bd1_some hf
        refine cV (X := List.take 0 (wX4 E a m0)) (Y := List.drop 12 (wX4 E a m0)) (w := (wX4 E a m0)) (w' := (wX4 E a m15)) (q0 := 0) lk_X4_119 hx hb hml hown hE hA (c_X4_swaps l E a m0 p1 p2 m15 hc14) rfl rfl hP hD hS rfl rfl ⟨rfl, rfl, Nat.le_of_ble_eq_true rfl, Nat.le_of_ble_eq_true rfl⟩ hl.1 (As := [.int p1, .int p2]) (rest := []) rfl rfl (Nat.le_of_ble_eq_true rfl) ⟨Nat.zero_le _, Nat.zero_le _⟩ dX4_swap_30 (fun H locs hP hD hS => ?_)
        refine W.eq (g2 := F0 m 33 ls []) rfl ?_
        refine lv_iconst (v := (1 : Int32)) hx hb dX4_swap_33 (by decide) ?_
        obtain ⟨rfl, rfl⟩ := so2 hf
        exact rt_i hx hb hr hlocks hP hD hS dX4_swap_34
      · have hf := ip c13 hf
        refine lv_aload_n hx hb dX4_swap_21 rfl (lv_at hl 0 rfl) ?_
        refine lv_iconst (v := (0 : Int32)) hx hb dX4_swap_22 (by decide) ?_
        obtain ⟨r17, m18, hc16, hf⟩ := bd2_some hf
        refine cV (X := List.take 0 (wX4 E a m0)) (Y := List.drop 12 (wX4 E a m0)) (w := (wX4 E a m0)) (w' := (wX4 E a m18)) (q0 := 0) lk_X4_92 hx hb hml hown hE hA (c_X4_finds l E a m0 (0 : Int32) r17 m18 hc16) rfl rfl hP hD hS rfl rfl ⟨rfl, rfl, Nat.le_of_ble_eq_true rfl, Nat.le_of_ble_eq_true rfl⟩ hl.1 (As := [.int (0 : Int32)]) (rest := []) rfl rfl (Nat.le_of_ble_eq_true rfl) ⟨Nat.zero_le _, Nat.zero_le _⟩ dX4_swap_23 (fun H locs hP hD hS => ?_)
        refine W.eq (g2 := F0 m 26 ls [.int r17]) rfl ?_
        obtain ⟨rfl, rfl⟩ := so2 hf
        exact rt_i hx hb hr hlocks hP hD hS dX4_swap_26
def f_X4_moments (m0 : MS) (p1 : Int32) : Option (Int32 × MS) := bd1 (f_X4_in (p1.toInt64) (1 : Int64) (200 : Int64)) (fun r2 => if (bI r2) = 0 then bd2 (f_X4_finds m0 (0 : Int32)) (fun r14 m15 => some (r14, m15)) else gd (1 : Int32) 67 (gd (2 : Int32) 67 (if (((g4_d m0) (1 : Int32).toNatClampNeg) + ((((g4_d m0) (2 : Int32).toNatClampNeg) + p1) / (16 : Int32))) ≤ (9999 : Int32) then bd1 (f_X4_momentsGo m0 p1) (fun m8 => gd (2 : Int32) 67 (some (((g4_d m8) (2 : Int32).toNatClampNeg), m8))) else bd2 (f_X4_finds m0 (4 : Int32)) (fun r11 m12 => some (r11, m12)))))
set_option maxHeartbeats 4000000 in
set_option maxRecDepth 100000 in
theorem c_X4_moments (l : Launch) (E : EV) (a : Nat → Nat) (m0 : MS) (p1 : Int32)  (r : Int32) (m0' : MS) (hf : f_X4_moments m0 p1 = some (r, m0')) : Ct l E yX4_moments cX4_moments 2 ((Option.some FieldType.int)) (rmk 6 137) [.ref (a 0), .int p1] (wX4 E a m0) (wX4 E a m0') (some (.int r)) := by
  refine Ct.of (by decide) (Nat.le_of_ble_eq_true rfl) ?_
  intro p e s m below meth c A ls hC hP hD hl
  obtain ⟨hx, hb, hr, hml, hown, hlocks, hE, hA⟩ := hC
  have hts : ∀ w ∈ tbl, w.before [.ref (a 0), .int p1].toArray s = true := fun w hw => hE.w hw
  have hS : va_S A s.heap s.heap [] := va_S.rf
  have hl : lv_has ls 2 [(0, .ref (a 0)), (1, .int p1)] := hl
  unfold f_X4_moments at hf
  refine lv_iload_n hx hb dX4_moments_0 rfl (lv_at hl 1 rfl) ?_
  refine lv_i2l (v := (p1.toInt64)) hx hb dX4_moments_1 rfl ?_
  refine lv_lconst (v := (1 : Int64)) hx hb dX4_moments_2 (by decide) ?_
  refine lv_ldc2 (v := (200 : Int64)) hx hb hown (hE.w tw_765) dX4_moments_3 ?_
  obtain ⟨r2, hc1, hf⟩ := bd1_some hf
  refine cS (X := List.take 0 (wX4 E a m0)) (Y := List.drop 0 (wX4 E a m0)) (w := (wX4 E a m0)) (w' := (wX4 E a m0)) lk_X4_46 hx hb hml hown hE hA (c_X4_in l E (p1.toInt64) (1 : Int64) (200 : Int64) r2 hc1) rfl rfl hP hD hS ⟨rfl, rfl, Nat.le_of_ble_eq_true rfl, Nat.le_of_ble_eq_true rfl⟩ hl.1 (As := [.long (p1.toInt64), .long (1 : Int64), .long (200 : Int64)]) (rest := []) rfl rfl (Nat.le_of_ble_eq_true rfl) ⟨Nat.zero_le _, Nat.zero_le _⟩ dX4_moments_6 (fun H locs hP hD hS => ?_)
  refine W.eq (g2 := F0 m 9 ls [.int (bI r2)]) rfl ?_
  refine lv_if_ne (tgt := 18) hx hb dX4_moments_9 (by decide) (fun c3 => ?_) (fun c3 => ?_)
  · have hf := im c3 hf
    refine lv_aload_n hx hb dX4_moments_18 rfl (lv_at hl 0 rfl) ?_
    refine va_get (D := E.1) (ci := 4) (v := .ref (a 1)) (C := RX4) (T := TX4) (N := 18) hx hb hts inX4 hown hE.2.1 hP 0 rfl rfl 0 (by decide) (hE.w tw_598) (fun _ h9 => h9) rfl dX4_moments_19 ?_
    refine lv_iconst (v := (1 : Int32)) hx hb dX4_moments_22 (by decide) ?_
    obtain ⟨hg4, hf⟩ := gd_some hf
    refine va_iald hx hb hE.2.1 hP 1 0 rfl rfl hg4 dX4_moments_23 ?_
    refine lv_aload_n hx hb dX4_moments_24 rfl (lv_at hl 0 rfl) ?_
    refine va_get (D := E.1) (ci := 4) (v := .ref (a 1)) (C := RX4) (T := TX4) (N := 18) hx hb hts inX4 hown hE.2.1 hP 0 rfl rfl 0 (by decide) (hE.w tw_598) (fun _ h9 => h9) rfl dX4_moments_25 ?_
    refine lv_iconst (v := (2 : Int32)) hx hb dX4_moments_28 (by decide) ?_
    obtain ⟨hg5, hf⟩ := gd_some hf
    refine va_iald hx hb hE.2.1 hP 1 0 rfl rfl hg5 dX4_moments_29 ?_
    refine lv_iload_n hx hb dX4_moments_30 rfl (lv_at hl 1 rfl) ?_
    refine lv_iadd hx hb dX4_moments_31 ?_
    refine lv_bipush (v := (16 : Int32)) hx hb dX4_moments_32 (by decide) ?_
    refine lv_idiv hx hb dX4_moments_34 (by decide) ?_
    refine lv_iadd hx hb dX4_moments_35 ?_
    refine lv_sipush (v := (9999 : Int32)) hx hb dX4_moments_36 (by decide) ?_
    refine lv_icmp_le (tgt := 48) hx hb dX4_moments_39 (by decide) (fun c6 => ?_) (fun c6 => ?_)
    · have hf := ip c6 hf
      refine lv_aload_n hx hb dX4_moments_48 rfl (lv_at hl 0 rfl) ?_
      refine lv_iload_n hx hb dX4_moments_49 rfl (lv_at hl 1 rfl) ?_
      obtain ⟨m8, hc7, hf⟩ := bd1_some hf
      refine cV (X := List.take 0 (wX4 E a m0)) (Y := List.drop 12 (wX4 E a m0)) (w := (wX4 E a m0)) (w' := (wX4 E a m8)) (q0 := 0) lk_X4_125 hx hb hml hown hE hA (c_X4_momentsGo l E a m0 p1 m8 hc7) rfl rfl hP hD hS rfl rfl ⟨rfl, rfl, Nat.le_of_ble_eq_true rfl, Nat.le_of_ble_eq_true rfl⟩ hl.1 (As := [.int p1]) (rest := []) rfl rfl (Nat.le_of_ble_eq_true rfl) ⟨Nat.zero_le _, Nat.zero_le _⟩ dX4_moments_50 (fun H locs hP hD hS => ?_)
      refine W.eq (g2 := F0 m 53 ls []) rfl ?_
      refine lv_aload_n hx hb dX4_moments_53 rfl (lv_at hl 0 rfl) ?_
      refine va_get (D := E.1) (ci := 4) (v := .ref (a 1)) (C := RX4) (T := TX4) (N := 18) hx hb hts inX4 hown hE.2.1 hP 0 rfl rfl 0 (by decide) (hE.w tw_598) (fun _ h9 => h9) rfl dX4_moments_54 ?_
      refine lv_iconst (v := (2 : Int32)) hx hb dX4_moments_57 (by decide) ?_
      obtain ⟨hg9, hf⟩ := gd_some hf
      refine va_iald hx hb hE.2.1 hP 1 0 rfl rfl hg9 dX4_moments_58 ?_
      obtain ⟨rfl, rfl⟩ := so2 hf
      exact rt_i hx hb hr hlocks hP hD hS dX4_moments_59
    · have hf := im c6 hf
      refine lv_aload_n hx hb dX4_moments_42 rfl (lv_at hl 0 rfl) ?_
      refine lv_iconst (v := (4 : Int32)) hx hb dX4_moments_43 (by decide) ?_
      obtain ⟨r11, m12, hc10, hf⟩ := bd2_some hf
      refine cV (X := List.take 0 (wX4 E a m0)) (Y := List.drop 12 (wX4 E a m0)) (w := (wX4 E a m0)) (w' := (wX4 E a m12)) (q0 := 0) lk_X4_92 hx hb hml hown hE hA (c_X4_finds l E a m0 (4 : Int32) r11 m12 hc10) rfl rfl hP hD hS rfl rfl ⟨rfl, rfl, Nat.le_of_ble_eq_true rfl, Nat.le_of_ble_eq_true rfl⟩ hl.1 (As := [.int (4 : Int32)]) (rest := []) rfl rfl (Nat.le_of_ble_eq_true rfl) ⟨Nat.zero_le _, Nat.zero_le _⟩ dX4_moments_44 (fun H locs hP hD hS => ?_)
      refine W.eq (g2 := F0 m 47 ls [.int r11]) rfl ?_
      obtain ⟨rfl, rfl⟩ := so2 hf
      exact rt_i hx hb hr hlocks hP hD hS dX4_moments_47
  · have hf := ip c3 hf
    refine lv_aload_n hx hb dX4_moments_12 rfl (lv_at hl 0 rfl) ?_
    refine lv_iconst (v := (0 : Int32)) hx hb dX4_moments_13 (by decide) ?_
    obtain ⟨r14, m15, hc13, hf⟩ := bd2_some hf
    refine cV (X := List.take 0 (wX4 E a m0)) (Y := List.drop 12 (wX4 E a m0)) (w := (wX4 E a m0)) (w' := (wX4 E a m15)) (q0 := 0) lk_X4_92 hx hb hml hown hE hA (c_X4_finds l E a m0 (0 : Int32) r14 m15 hc13) rfl rfl hP hD hS rfl rfl ⟨rfl, rfl, Nat.le_of_ble_eq_true rfl, Nat.le_of_ble_eq_true rfl⟩ hl.1 (As := [.int (0 : Int32)]) (rest := []) rfl rfl (Nat.le_of_ble_eq_true rfl) ⟨Nat.zero_le _, Nat.zero_le _⟩ dX4_moments_14 (fun H locs hP hD hS => ?_)
    refine W.eq (g2 := F0 m 17 ls [.int r14]) rfl ?_
    obtain ⟨rfl, rfl⟩ := so2 hf
    exact rt_i hx hb hr hlocks hP hD hS dX4_moments_17
