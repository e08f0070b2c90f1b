def f_X1_isMissing (sh : SS) : Option (Bool) := if (g1_bits sh) = 0 then some (true) else some (false)
set_option maxHeartbeats 4000000 in
set_option maxRecDepth 100000 in
theorem c_X1_isMissing (l : Launch) (E : EV) (a : Nat → Nat) (sh : SS)  (r : Bool) (hf : f_X1_isMissing sh = some r) : Ct l E yX1_isMissing cX1_isMissing 1 ((Option.some FieldType.boolean)) (rmk 0 0) [.ref (a 0)] (wX1 E a sh) (wX1 E a sh) (some (.int (bI r))) := by
  refine Ct.of (by decide) (Nat.le_of_ble_eq_true rfl) ?_
  intro p e s m below meth c A ls hC hP hD hl
  obtain ⟨hx, hb, hr, hml, hown, hlocks, hE, hA⟩ := hC
  have hts : ∀ w ∈ tbl, w.before [.ref (a 0)].toArray s = true := fun w hw => hE.w hw
  have hS : va_S A s.heap s.heap [] := va_S.rf
  have hl : lv_has ls 1 [(0, .ref (a 0))] := hl
  unfold f_X1_isMissing at hf
  refine lv_aload_n hx hb dX1_isMissing_0 rfl (lv_at hl 0 rfl) ?_
  refine va_get (D := E.1) (ci := 1) (v := .int (g1_bits sh)) (C := RX1) (T := TX1) (N := 3) hx hb hts inX1 hown hE.2.1 hP 0 rfl rfl 1 (by decide) (hE.w tw_107) (fun _ h9 => h9) rfl dX1_isMissing_1 ?_
  refine lv_if_ne (tgt := 11) hx hb dX1_isMissing_4 (by decide) (fun c1 => ?_) (fun c1 => ?_)
  · have hf := im c1 hf
    refine lv_iconst (v := (0 : Int32)) hx hb dX1_isMissing_11 (by decide) ?_
    obtain rfl := so1 hf
    exact rt_z (bI_nar _) hx hb hr hlocks hP hD hS dX1_isMissing_12
  · have hf := ip c1 hf
    refine lv_iconst (v := (1 : Int32)) hx hb dX1_isMissing_7 (by decide) ?_
    refine lv_goto (tgt := 12) hx hb dX1_isMissing_8 (by decide) ?_
    obtain rfl := so1 hf
    exact rt_z (bI_nar _) hx hb hr hlocks hP hD hS dX1_isMissing_12
def lp_X1_layOut_20  : Nat → (Int32) → (SS) → Option (SS)
  | 0, _, _ => none
  | k_7 + 1, v3_7, sh_7 => if (40 : Int32) ≤ v3_7 then some (sh_7) else gd v3_7 40 (jn1 (s1_row sh_7 (vp_updL (g1_row sh_7) v3_7.toNatClampNeg (0 : Int64))) (fun s_10 => lp_X1_layOut_20  k_7 (v3_7 + (1 : Int32)) s_10))
def f_X1_layOut (sh : SS) (p1 : Int32) (p2 : Int32) : Option (SS) := jn1 (s1_bits sh p1) (fun s_1 => jn1 (if p1 = 0 then ((0 : Int32)) else (p2)) (fun x3 => jn1 (s1_size s_1 x3) (fun s_6 => lp_X1_layOut_20  FU (0 : Int32) s_6)))
set_option maxHeartbeats 4000000 in
set_option maxRecDepth 100000 in
theorem c_X1_layOut (l : Launch) (E : EV) (a : Nat → Nat) (sh : SS) (p1 : Int32) (p2 : Int32)  (sh' : SS) (hf : f_X1_layOut sh p1 p2 = some sh') : Ct l E yX1_layOut cX1_layOut 4 (none) (rmk 0 0) [.ref (a 0), .int p1, .int p2] (wX1 E a sh) (wX1 E a sh') none := by
  refine Ct.of (by decide) (Nat.le_of_ble_eq_true rfl) ?_
  intro p e s m below meth c A ls hC hP hD hl
  obtain ⟨hx, hb, hr, hml, hown, hlocks, hE, hA⟩ := hC
  have hts : ∀ w ∈ tbl, w.before [.ref (a 0), .int p1, .int p2].toArray s = true := fun w hw => hE.w hw
  have hS : va_S A s.heap s.heap [] := va_S.rf
  have hl : lv_has ls 4 [(0, .ref (a 0)), (1, .int p1), (2, .int p2)] := hl
  unfold f_X1_layOut at hf
  refine lv_aload_n hx hb dX1_layOut_0 rfl (lv_at hl 0 rfl) ?_
  refine lv_iload_n hx hb dX1_layOut_1 rfl (lv_at hl 1 rfl) ?_
  obtain ⟨s_1, es_1, hf⟩ := jn1_some hf
  refine va_put (D := E.1) (ci := 1) (v := .int p1) (ty := .int) (C := RX1) (T := TX1) (N := 3) hx hb hts inX1 tyX1 tyX1_ok nmX1 hown hE.2.1 hP hD hS 0 rfl rfl 1 (by decide) (hE.w tw_107) (fun _ h9 => h9) rfl (by decide +kernel) rfl rfl (Nat.le_of_ble_eq_true rfl) dX1_layOut_2 (fun H locs hP hD hS => ?_)
  have hP : va_P E.1 vwCl (wX1 E a s_1) H := wst (by rw [es_1]; exact rfl) hP
  have hD : va_D A (wX1 E a s_1) := wsd (by rw [es_1]; exact rfl) hD
  refine lv_aload_n hx hb dX1_layOut_5 rfl (lv_at hl 0 rfl) ?_
  refine lv_iload_n hx hb dX1_layOut_6 rfl (lv_at hl 1 rfl) ?_
  obtain ⟨x3, hq5, hf⟩ := jn1_some hf
  have J4 : ∀ (H : Heap) (locs : List Loc) (ls : Array Slot), va_P E.1 vwCl (wX1 E a s_1) H → va_D A (wX1 E a s_1) → va_S A s.heap H locs → lv_has ls 4 [(0, .ref (a 0)), (1, .int p1), (2, .int p2)] → W p l e (rmk 0 0) s m [.ref (a 0), .int p1, .int p2].toArray below meth c H locs 0 0 (MQ below (Qct E A (wX1 E a sh') none) [.ref (a 0), .int p1, .int p2].toArray s 0 0 A) (F0 m 15 ls [.int x3, .ref (a 0)]) := by
    intro H locs ls hP hD hS hl
    obtain ⟨s_6, es_6, hf⟩ := jn1_some hf
    refine va_put (D := E.1) (ci := 1) (v := .int x3) (ty := .int) (C := RX1) (T := TX1) (N := 3) hx hb hts inX1 tyX1 tyX1_ok nmX1 hown hE.2.1 hP hD hS 0 rfl rfl 2 (by decide) (hE.w tw_109) (fun _ h9 => h9) rfl (by decide +kernel) rfl rfl (Nat.le_of_ble_eq_true rfl) dX1_layOut_15 (fun H locs hP hD hS => ?_)
    have hP : va_P E.1 vwCl (wX1 E a s_6) H := wst (by rw [es_6]; exact rfl) hP
    have hD : va_D A (wX1 E a s_6) := wsd (by rw [es_6]; exact rfl) hD
    refine lv_iconst (v := (0 : Int32)) hx hb dX1_layOut_18 (by decide) ?_
    refine lv_istore_n (lv' := [(3, .int (0 : Int32)), (0, .ref (a 0)), (1, .int p1), (2, .int p2)]) hx hb dX1_layOut_19 rfl hl (by decide) rfl (fun ls hl => ?_)
    have L_7 : ∀ (k_7 : Nat) (v3_7 : Int32) (sh_7 : SS), lp_X1_layOut_20  k_7 v3_7 sh_7 = some sh' → ∀ (H : Heap) (locs : List Loc) (ls : Array Slot), va_P E.1 vwCl (wX1 E a sh_7) H → va_D A (wX1 E a sh_7) → va_S A s.heap H locs → lv_has ls 4 [(3, .int v3_7), (0, .ref (a 0)), (1, .int p1), (2, .int p2)] → W p l e (rmk 0 0) s m [.ref (a 0), .int p1, .int p2].toArray below meth c H locs 0 0 (MQ below (Qct E A (wX1 E a sh') none) [.ref (a 0), .int p1, .int p2].toArray s 0 0 A) (F0 m 20 ls []) := by
      intro k_7
      induction k_7 with
      | zero =>
        intro v3_7 sh_7 hf
        rw [lp_X1_layOut_20] at hf
        cases hf
      | succ k_7 ih_7 =>
        intro v3_7 sh_7 hf H locs ls hP hD hS hl
        rw [lp_X1_layOut_20] at hf
        refine lv_iload_n hx hb dX1_layOut_20 rfl (lv_at hl 0 rfl) ?_
        refine lv_bipush (v := (40 : Int32)) hx hb dX1_layOut_21 (by decide) ?_
        refine lv_icmp_ge (tgt := 39) hx hb dX1_layOut_23 (by decide) (fun c8 => ?_) (fun c8 => ?_)
        · have hf := ip c8 hf
          obtain rfl := so1 hf
          exact rt_v hx hb hr hlocks hP hD hS dX1_layOut_39
        · have hf := im c8 hf
          refine lv_aload_n hx hb dX1_layOut_26 rfl (lv_at hl 1 rfl) ?_
          refine va_get (D := E.1) (ci := 1) (v := .ref (a 1)) (C := RX1) (T := TX1) (N := 3) hx hb hts inX1 hown hE.2.1 hP 0 rfl rfl 0 (by decide) (hE.w tw_105) (fun _ h9 => h9) rfl dX1_layOut_27 ?_
          refine lv_iload_n hx hb dX1_layOut_30 rfl (lv_at hl 0 rfl) ?_
          refine lv_lconst (v := (0 : Int64)) hx hb dX1_layOut_31 (by decide) ?_
          obtain ⟨hg9, hf⟩ := gd_some hf
          obtain ⟨s_10, es_10, hf⟩ := jn1_some hf
          refine va_last hx hb hE.2.1 hP hD hS 1 1 rfl rfl hg9 dX1_layOut_32 (fun H locs hP hD hS => ?_)
          have hP : va_P E.1 vwCl (wX1 E a s_10) H := wst (by rw [es_10]; exact rfl) hP
          have hD : va_D A (wX1 E a s_10) := wsd (by rw [es_10]; exact rfl) hD
          refine lv_iinc (v := (v3_7 + (1 : Int32))) (lv' := [(3, .int (v3_7 + (1 : Int32))), (0, .ref (a 0)), (1, .int p1), (2, .int p2)]) hx hb dX1_layOut_33 hl (k := 0) rfl rfl (by decide) rfl (fun ls hl => ?_)
          refine lv_goto (tgt := 20) hx hb dX1_layOut_36 (by decide) ?_
          exact ih_7 _ _ hf _ _ _ hP hD hS (lv_sub hl [0, 1, 2, 3] rfl)
    exact L_7 _ _ _ hf _ _ _ hP hD hS (lv_sub hl [0, 1, 2, 3] rfl)
  refine lv_if_ne (tgt := 14) hx hb dX1_layOut_7 (by decide) (fun c2 => ?_) (fun c2 => ?_)
  · have hq5 := ien c2 hq5
    refine lv_iload_n hx hb dX1_layOut_14 rfl (lv_at hl 2 rfl) ?_
    obtain rfl := pj1 hq5
    exact J4 _ _ _ hP hD hS (lv_sub hl [0, 1, 2] rfl)
  · have hq5 := ie c2 hq5
    refine lv_iconst (v := (0 : Int32)) hx hb dX1_layOut_10 (by decide) ?_
    refine lv_goto (tgt := 15) hx hb dX1_layOut_11 (by decide) ?_
    obtain rfl := pj1 hq5
    exact J4 _ _ _ hP hD hS (lv_sub hl [0, 1, 2] rfl)
def f_X1_put (sh : SS) (p1 : Int32) (p2 : Int64) : Option (SS) := jn1 (if (g1_bits sh) = (8 : Int32) then ((((p2.toInt32).toInt8.toInt32).toInt64)) else if (g1_bits sh) = (16 : Int32) then ((((p2.toInt32).toInt16.toInt32).toInt64)) else (p2)) (fun x2 => gd p1 40 (jn1 (s1_row sh (vp_updL (g1_row sh) p1.toNatClampNeg x2)) (fun s_7 => some (s_7))))
set_option maxHeartbeats 4000000 in
set_option maxRecDepth 100000 in
theorem c_X1_put (l : Launch) (E : EV) (a : Nat → Nat) (sh : SS) (p1 : Int32) (p2 : Int64)  (sh' : SS) (hf : f_X1_put sh p1 p2 = some sh') : Ct l E yX1_put cX1_put 4 (none) (rmk 0 0) [.ref (a 0), .int p1, .long p2] (wX1 E a sh) (wX1 E a sh') none := by
  refine Ct.of (by decide) (Nat.le_of_ble_eq_true rfl) ?_
  intro p e s m below meth c A ls hC hP hD hl
  obtain ⟨hx, hb, hr, hml, hown, hlocks, hE, hA⟩ := hC
  have hts : ∀ w ∈ tbl, w.before [.ref (a 0), .int p1, .long p2].toArray s = true := fun w hw => hE.w hw
  have hS : va_S A s.heap s.heap [] := va_S.rf
  have hl : lv_has ls 4 [(0, .ref (a 0)), (1, .int p1), (2, .long p2)] := hl
  unfold f_X1_put at hf
  refine lv_aload_n hx hb dX1_put_0 rfl (lv_at hl 0 rfl) ?_
  refine va_get (D := E.1) (ci := 1) (v := .ref (a 1)) (C := RX1) (T := TX1) (N := 3) hx hb hts inX1 hown hE.2.1 hP 0 rfl rfl 0 (by decide) (hE.w tw_105) (fun _ h9 => h9) rfl dX1_put_1 ?_
  refine lv_iload_n hx hb dX1_put_4 rfl (lv_at hl 1 rfl) ?_
  refine lv_aload_n hx hb dX1_put_5 rfl (lv_at hl 0 rfl) ?_
  refine va_get (D := E.1) (ci := 1) (v := .int (g1_bits sh)) (C := RX1) (T := TX1) (N := 3) hx hb hts inX1 hown hE.2.1 hP 0 rfl rfl 1 (by decide) (hE.w tw_107) (fun _ h9 => h9) rfl dX1_put_6 ?_
  refine lv_bipush (v := (8 : Int32)) hx hb dX1_put_9 (by decide) ?_
  obtain ⟨x2, hq4, hf⟩ := jn1_some hf
  have J3 : ∀ (H : Heap) (locs : List Loc) (ls : Array Slot), va_P E.1 vwCl (wX1 E a sh) H → va_D A (wX1 E a sh) → va_S A s.heap H locs → lv_has ls 4 [(0, .ref (a 0)), (1, .int p1), (2, .long p2)] → W p l e (rmk 0 0) s m [.ref (a 0), .int p1, .long p2].toArray below meth c H locs 0 0 (MQ below (Qct E A (wX1 E a sh') none) [.ref (a 0), .int p1, .long p2].toArray s 0 0 A) (F0 m 38 ls [.long x2, .int p1, .ref (a 1)]) := by
    intro H locs ls hP hD hS hl
    obtain ⟨hg6, hf⟩ := gd_some hf
    obtain ⟨s_7, es_7, hf⟩ := jn1_some hf
    refine va_last hx hb hE.2.1 hP hD hS 1 1 rfl rfl hg6 dX1_put_38 (fun H locs hP hD hS => ?_)
    have hP : va_P E.1 vwCl (wX1 E a s_7) H := wst (by rw [es_7]; exact rfl) hP
    have hD : va_D A (wX1 E a s_7) := wsd (by rw [es_7]; exact rfl) hD
    obtain rfl := so1 hf
    exact rt_v hx hb hr hlocks hP hD hS dX1_put_39
  refine lv_icmp_ne (tgt := 21) hx hb dX1_put_11 (by decide) (fun c1 => ?_) (fun c1 => ?_)
  · have hq4 := ien c1 hq4
    refine lv_aload_n hx hb dX1_put_21 rfl (lv_at hl 0 rfl) ?_
    refine va_get (D := E.1) (ci := 1) (v := .int (g1_bits sh)) (C := RX1) (T := TX1) (N := 3) hx hb hts inX1 hown hE.2.1 hP 0 rfl rfl 1 (by decide) (hE.w tw_107) (fun _ h9 => h9) rfl dX1_put_22 ?_
    refine lv_bipush (v := (16 : Int32)) hx hb dX1_put_25 (by decide) ?_
    refine lv_icmp_ne (tgt := 37) hx hb dX1_put_27 (by decide) (fun c5 => ?_) (fun c5 => ?_)
    · have hq4 := ien c5 hq4
      refine lv_lload_n hx hb dX1_put_37 rfl (lv_at hl 2 rfl) ?_
      obtain rfl := pj1 hq4
      exact J3 _ _ _ hP hD hS (lv_sub hl [0, 1, 2] rfl)
    · have hq4 := ie c5 hq4
      refine lv_lload_n hx hb dX1_put_30 rfl (lv_at hl 2 rfl) ?_
      refine lv_l2i (v := (p2.toInt32)) hx hb dX1_put_31 rfl ?_
      refine lv_i2s (v := ((p2.toInt32).toInt16.toInt32)) hx hb dX1_put_32 rfl ?_
      refine lv_i2l (v := (((p2.toInt32).toInt16.toInt32).toInt64)) hx hb dX1_put_33 rfl ?_
      refine lv_goto (tgt := 38) hx hb dX1_put_34 (by decide) ?_
      obtain rfl := pj1 hq4
      exact J3 _ _ _ hP hD hS (lv_sub hl [0, 1, 2] rfl)
  · have hq4 := ie c1 hq4
    refine lv_lload_n hx hb dX1_put_14 rfl (lv_at hl 2 rfl) ?_
    refine lv_l2i (v := (p2.toInt32)) hx hb dX1_put_15 rfl ?_
    refine lv_i2b (v := ((p2.toInt32).toInt8.toInt32)) hx hb dX1_put_16 rfl ?_
    refine lv_i2l (v := (((p2.toInt32).toInt8.toInt32).toInt64)) hx hb dX1_put_17 rfl ?_
    refine lv_goto (tgt := 38) hx hb dX1_put_18 (by decide) ?_
    obtain rfl := pj1 hq4
    exact J3 _ _ _ hP hD hS (lv_sub hl [0, 1, 2] rfl)
def f_X1_has (sh : SS) (p1 : Int32) (p2 : Int32) : Option (Bool) := if p1 < 0 then some (false) else if p2 < 0 then some (false) else if ((g1_size sh) - p1) < p2 then some (false) else some (true)
set_option maxHeartbeats 4000000 in
set_option maxRecDepth 100000 in
theorem c_X1_has (l : Launch) (E : EV) (a : Nat → Nat) (sh : SS) (p1 : Int32) (p2 : Int32)  (r : Bool) (hf : f_X1_has sh p1 p2 = some r) : Ct l E yX1_has cX1_has 3 ((Option.some FieldType.boolean)) (rmk 0 0) [.ref (a 0), .int p1, .int p2] (wX1 E a sh) (wX1 E a sh) (some (.int (bI r))) := by
  refine Ct.of (by decide) (Nat.le_of_ble_eq_true rfl) ?_
  intro p e s m below meth c A ls hC hP hD hl
  obtain ⟨hx, hb, hr, hml, hown, hlocks, hE, hA⟩ := hC
  have hts : ∀ w ∈ tbl, w.before [.ref (a 0), .int p1, .int p2].toArray s = true := fun w hw => hE.w hw
  have hS : va_S A s.heap s.heap [] := va_S.rf
  have hl : lv_has ls 3 [(0, .ref (a 0)), (1, .int p1), (2, .int p2)] := hl
  unfold f_X1_has at hf
  refine lv_iload_n hx hb dX1_has_0 rfl (lv_at hl 1 rfl) ?_
  refine lv_if_lt (tgt := 22) hx hb dX1_has_1 (by decide) (fun c1 => ?_) (fun c1 => ?_)
  · have hf := ip c1 hf
    refine lv_iconst (v := (0 : Int32)) hx hb dX1_has_22 (by decide) ?_
    obtain rfl := so1 hf
    exact rt_z (bI_nar _) hx hb hr hlocks hP hD hS dX1_has_23
  · have hf := im c1 hf
    refine lv_iload_n hx hb dX1_has_4 rfl (lv_at hl 2 rfl) ?_
    refine lv_if_lt (tgt := 22) hx hb dX1_has_5 (by decide) (fun c2 => ?_) (fun c2 => ?_)
    · have hf := ip c2 hf
      refine lv_iconst (v := (0 : Int32)) hx hb dX1_has_22 (by decide) ?_
      obtain rfl := so1 hf
      exact rt_z (bI_nar _) hx hb hr hlocks hP hD hS dX1_has_23
    · have hf := im c2 hf
      refine lv_iload_n hx hb dX1_has_8 rfl (lv_at hl 2 rfl) ?_
      refine lv_aload_n hx hb dX1_has_9 rfl (lv_at hl 0 rfl) ?_
      refine va_get (D := E.1) (ci := 1) (v := .int (g1_size sh)) (C := RX1) (T := TX1) (N := 3) hx hb hts inX1 hown hE.2.1 hP 0 rfl rfl 2 (by decide) (hE.w tw_109) (fun _ h9 => h9) rfl dX1_has_10 ?_
      refine lv_iload_n hx hb dX1_has_13 rfl (lv_at hl 1 rfl) ?_
      refine lv_isub hx hb dX1_has_14 ?_
      refine lv_icmp_gt (tgt := 22) hx hb dX1_has_15 (by decide) (fun c3 => ?_) (fun c3 => ?_)
      · have hf := ip c3 hf
        refine lv_iconst (v := (0 : Int32)) hx hb dX1_has_22 (by decide) ?_
        obtain rfl := so1 hf
        exact rt_z (bI_nar _) hx hb hr hlocks hP hD hS dX1_has_23
      · have hf := im c3 hf
        refine lv_iconst (v := (1 : Int32)) hx hb dX1_has_18 (by decide) ?_
        refine lv_goto (tgt := 23) hx hb dX1_has_19 (by decide) ?_
        obtain rfl := so1 hf
        exact rt_z (bI_nar _) hx hb hr hlocks hP hD hS dX1_has_23
