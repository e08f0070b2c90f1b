def f_X0_exchange (N : Nat) (f : FI) (p2 : Int32) (p3 : Int32) : Option (FI) := gd p2 N (gd p3 N (gd p2 N (jn1 (upd f p2.toNatClampNeg (f p3.toNatClampNeg)) (fun f_4 => gd p3 N (jn1 (upd f_4 p3.toNatClampNeg (f p2.toNatClampNeg)) (fun f_6 => some (f_6)))))))
set_option maxHeartbeats 4000000 in
set_option maxRecDepth 100000 in
theorem c_X0_exchange (l : Launch) (E : EV) (q : Nat) (N : Nat) (f : FI) (p2 : Int32) (p3 : Int32)  (f' : FI) (hf : f_X0_exchange N f p2 p3 = some f') : Ct l E yX0_exchange cX0_exchange 4 (none) (rmk 0 0) [.ref q, .int p2, .int p3] ([(q, .inl (E.2.1 0, N, .inl f))] : va_W) ([(q, .inl (E.2.1 0, N, .inl f'))] : va_W) none := by
  refine Ct.of (by decide) (Nat.le_of_ble_eq_true rfl) ?_
  intro p e s m below meth c A ls hC hP hD hl
  obtain ⟨hx, hb, hr, hml, hown, hlocks, hE, hA⟩ := hC
  have hts : ∀ w ∈ tbl, w.before [.ref q, .int p2, .int p3].toArray s = true := fun w hw => hE.w hw
  have hS : va_S A s.heap s.heap [] := va_S.rf
  have hl : lv_has ls 4 [(0, .ref q), (1, .int p2), (2, .int p3)] := hl
  unfold f_X0_exchange at hf
  refine lv_aload_n hx hb dX0_exchange_0 rfl (lv_at hl 0 rfl) ?_
  refine lv_iload_n hx hb dX0_exchange_1 rfl (lv_at hl 1 rfl) ?_
  obtain ⟨hg1, hf⟩ := gd_some hf
  refine va_iald hx hb hE.2.1 hP 0 0 rfl rfl hg1 dX0_exchange_2 ?_
  refine lv_istore_n (lv' := [(3, .int (f p2.toNatClampNeg)), (0, .ref q), (1, .int p2), (2, .int p3)]) hx hb dX0_exchange_3 rfl hl (by decide) rfl (fun ls hl => ?_)
  refine lv_aload_n hx hb dX0_exchange_4 rfl (lv_at hl 1 rfl) ?_
  refine lv_iload_n hx hb dX0_exchange_5 rfl (lv_at hl 2 rfl) ?_
  refine lv_aload_n hx hb dX0_exchange_6 rfl (lv_at hl 1 rfl) ?_
  refine lv_iload_n hx hb dX0_exchange_7 rfl (lv_at hl 3 rfl) ?_
  obtain ⟨hg2, hf⟩ := gd_some hf
  refine va_iald hx hb hE.2.1 hP 0 0 rfl rfl hg2 dX0_exchange_8 ?_
  obtain ⟨hg3, hf⟩ := gd_some hf
  obtain ⟨f_4, ef_4, hf⟩ := jn1_some hf
  refine va_iast hx hb hE.2.1 hP hD hS 0 0 rfl rfl hg3 dX0_exchange_9 (fun H locs hP hD hS => ?_)
  have hP : va_P E.1 vwCl ([(q, .inl (E.2.1 0, N, .inl f_4))] : va_W) H := wst (by rw [ef_4]; exact rfl) hP
  have hD : va_D A ([(q, .inl (E.2.1 0, N, .inl f_4))] : va_W) := wsd (by rw [ef_4]; exact rfl) hD
  refine lv_aload_n hx hb dX0_exchange_10 rfl (lv_at hl 1 rfl) ?_
  refine lv_iload_n hx hb dX0_exchange_11 rfl (lv_at hl 3 rfl) ?_
  refine lv_iload_n hx hb dX0_exchange_12 rfl (lv_at hl 0 rfl) ?_
  obtain ⟨hg5, hf⟩ := gd_some hf
  obtain ⟨f_6, ef_6, hf⟩ := jn1_some hf
  refine va_iast hx hb hE.2.1 hP hD hS 0 0 rfl rfl hg5 dX0_exchange_13 (fun H locs hP hD hS => ?_)
  have hP : va_P E.1 vwCl ([(q, .inl (E.2.1 0, N, .inl f_6))] : va_W) H := wst (by rw [ef_6]; exact rfl) hP
  have hD : va_D A ([(q, .inl (E.2.1 0, N, .inl f_6))] : va_W) := wsd (by rw [ef_6]; exact rfl) hD
  obtain rfl := so1 hf
  exact rt_v hx hb hr hlocks hP hD hS dX0_exchange_14
def lp_X0_sum_4 (N : Nat) (f : FI) (p2 : Int32) : Nat → (Int32) → (Int32) → Option (Int32)
  | 0, _, _ => none
  | k_1 + 1, v3_1, v2_1 => if p2 ≤ v3_1 then some (v2_1) else gd v3_1 N (lp_X0_sum_4 N f p2 k_1 (v3_1 + (1 : Int32)) (v2_1 + (f v3_1.toNatClampNeg)))
def f_X0_sum (N : Nat) (f : FI) (p2 : Int32) : Option (Int32) := lp_X0_sum_4 N f p2 FU (0 : Int32) (0 : Int32)
set_option maxHeartbeats 4000000 in
set_option maxRecDepth 100000 in
theorem c_X0_sum (l : Launch) (E : EV) (q : Nat) (N : Nat) (f : FI) (p2 : Int32)  (r : Int32) (hf : f_X0_sum N f p2 = some r) : Ct l E yX0_sum cX0_sum 4 ((Option.some FieldType.int)) (rmk 0 0) [.ref q, .int p2] ([(q, .inl (E.2.1 0, N, .inl f))] : va_W) ([(q, .inl (E.2.1 0, N, .inl f))] : va_W) (some (.int r)) := by
  refine Ct.of (by decide) (Nat.le_of_ble_eq_true rfl) ?_
  intro p e s m below meth c A ls hC hP hD hl
  obtain ⟨hx, hb, hr, hml, hown, hlocks, hE, hA⟩ := hC
  have hts : ∀ w ∈ tbl, w.before [.ref q, .int p2].toArray s = true := fun w hw => hE.w hw
  have hS : va_S A s.heap s.heap [] := va_S.rf
  have hl : lv_has ls 4 [(0, .ref q), (1, .int p2)] := hl
  unfold f_X0_sum at hf
  refine lv_iconst (v := (0 : Int32)) hx hb dX0_sum_0 (by decide) ?_
  refine lv_istore_n (lv' := [(2, .int (0 : Int32)), (0, .ref q), (1, .int p2)]) hx hb dX0_sum_1 rfl hl (by decide) rfl (fun ls hl => ?_)
  refine lv_iconst (v := (0 : Int32)) hx hb dX0_sum_2 (by decide) ?_
  refine lv_istore_n (lv' := [(3, .int (0 : Int32)), (2, .int (0 : Int32)), (0, .ref q), (1, .int p2)]) hx hb dX0_sum_3 rfl hl (by decide) rfl (fun ls hl => ?_)
  have L_1 : ∀ (k_1 : Nat) (v3_1 : Int32) (v2_1 : Int32), lp_X0_sum_4 N f p2 k_1 v3_1 v2_1 = some r → ∀ (H : Heap) (locs : List Loc) (ls : Array Slot), va_P E.1 vwCl ([(q, .inl (E.2.1 0, N, .inl f))] : va_W) H → va_D A ([(q, .inl (E.2.1 0, N, .inl f))] : va_W) → va_S A s.heap H locs → lv_has ls 4 [(3, .int v3_1), (2, .int v2_1), (0, .ref q), (1, .int p2)] → W p l e (rmk 0 0) s m [.ref q, .int p2].toArray below meth c H locs 0 0 (MQ below (Qct E A ([(q, .inl (E.2.1 0, N, .inl f))] : va_W) (some (.int r))) [.ref q, .int p2].toArray s 0 0 A) (F0 m 4 ls []) := by
    intro k_1
    induction k_1 with
    | zero =>
      intro v3_1 v2_1 hf
      rw [lp_X0_sum_4] at hf
      cases hf
    | succ k_1 ih_1 =>
      intro v3_1 v2_1 hf H locs ls hP hD hS hl
      rw [lp_X0_sum_4] at hf
      refine lv_iload_n hx hb dX0_sum_4 rfl (lv_at hl 0 rfl) ?_
      refine lv_iload_n hx hb dX0_sum_5 rfl (lv_at hl 3 rfl) ?_
      refine lv_icmp_ge (tgt := 21) hx hb dX0_sum_6 (by decide) (fun c2 => ?_) (fun c2 => ?_)
      · have hf := ip c2 hf
        refine lv_iload_n hx hb dX0_sum_21 rfl (lv_at hl 1 rfl) ?_
        obtain rfl := so1 hf
        exact rt_i hx hb hr hlocks hP hD hS dX0_sum_22
      · have hf := im c2 hf
        refine lv_iload_n hx hb dX0_sum_9 rfl (lv_at hl 1 rfl) ?_
        refine lv_aload_n hx hb dX0_sum_10 rfl (lv_at hl 2 rfl) ?_
        refine lv_iload_n hx hb dX0_sum_11 rfl (lv_at hl 0 rfl) ?_
        obtain ⟨hg3, hf⟩ := gd_some hf
        refine va_iald hx hb hE.2.1 hP 0 0 rfl rfl hg3 dX0_sum_12 ?_
        refine lv_iadd hx hb dX0_sum_13 ?_
        refine lv_istore_n (lv' := [(2, .int (v2_1 + (f v3_1.toNatClampNeg))), (3, .int v3_1), (0, .ref q), (1, .int p2)]) hx hb dX0_sum_14 rfl hl (by decide) rfl (fun ls hl => ?_)
        refine lv_iinc (v := (v3_1 + (1 : Int32))) (lv' := [(3, .int (v3_1 + (1 : Int32))), (2, .int (v2_1 + (f v3_1.toNatClampNeg))), (0, .ref q), (1, .int p2)]) hx hb dX0_sum_15 hl (k := 1) rfl rfl (by decide) rfl (fun ls hl => ?_)
        refine lv_goto (tgt := 4) hx hb dX0_sum_18 (by decide) ?_
        exact ih_1 _ _ hf _ _ _ hP hD hS (lv_sub hl [0, 1, 2, 3] rfl)
  exact L_1 _ _ _ hf _ _ _ hP hD hS (lv_sub hl [0, 1, 2, 3] rfl)
def f_X0_changeSeats (h : HS) (p1 : Int32) (p2 : Int32) : Option (HS) := bd1 (f_X0_exchange 8 (g0_kinds h) p1 p2) (fun f2 => jn1 (s0_kinds h f2) (fun h_3 => bd1 (f_X0_exchange 8 (g0_freshes h_3) p1 p2) (fun f5 => jn1 (s0_freshes h_3 f5) (fun h_6 => bd1 (f_X0_exchange 8 (g0_notes h_6) p1 p2) (fun f8 => jn1 (s0_notes h_6 f8) (fun h_9 => bd1 (f_X0_exchange 8 (g0_dids h_9) p1 p2) (fun f11 => jn1 (s0_dids h_9 f11) (fun h_12 => some (h_12)))))))))
set_option maxHeartbeats 4000000 in
set_option maxRecDepth 100000 in
theorem c_X0_changeSeats (l : Launch) (E : EV) (a : Nat → Nat) (h : HS) (p1 : Int32) (p2 : Int32)  (h' : HS) (hf : f_X0_changeSeats h p1 p2 = some h') : Ct l E yX0_changeSeats cX0_changeSeats 3 (none) (rmk 1 23) [.ref (a 0), .int p1, .int p2] (wX0 E a h) (wX0 E a h') none := by
  refine Ct.of (by decide) (Nat.le_of_ble_eq_true rfl) ?_
  intro p e s m below meth c A ls hC hP hD hl
  obtain ⟨hx, hb, hr, hml, hown, hlocks, hE, hA⟩ := hC
  have hts : ∀ w ∈ tbl, w.before [.ref (a 0), .int p1, .int p2].toArray s = true := fun w hw => hE.w hw
  have hS : va_S A s.heap s.heap [] := va_S.rf
  have hl : lv_has ls 3 [(0, .ref (a 0)), (1, .int p1), (2, .int p2)] := hl
  unfold f_X0_changeSeats at hf
  refine lv_aload_n hx hb dX0_changeSeats_0 rfl (lv_at hl 0 rfl) ?_
  refine va_get (D := E.1) (ci := 0) (v := .ref (a 6)) (C := RX0) (T := TX0) (N := 10) hx hb hts inX0 hown hE.2.1 hP 0 rfl rfl 5 (by decide) (hE.w tw_39) (fun _ h9 => h9) rfl dX0_changeSeats_1 ?_
  refine lv_iload_n hx hb dX0_changeSeats_4 rfl (lv_at hl 1 rfl) ?_
  refine lv_iload_n hx hb dX0_changeSeats_5 rfl (lv_at hl 2 rfl) ?_
  obtain ⟨f2, hc1, hf⟩ := bd1_some hf
  obtain ⟨h_3, eh_3, hf⟩ := jn1_some hf
  refine cS (X := List.take 3 (wX0 E a h)) (Y := List.drop 4 (wX0 E a h)) (w := (wX0 E a h)) (w' := (wX0 E a h_3)) lk_X0_49 hx hb hml hown hE hA (c_X0_exchange l E (a 6) 8 (g0_kinds h) p1 p2 f2 hc1) rfl (by rw [eh_3]; rfl) hP hD hS ⟨rfl, rfl, Nat.le_of_ble_eq_true rfl, Nat.le_of_ble_eq_true rfl⟩ hl.1 (As := [.ref (a 6), .int p1, .int p2]) (rest := []) rfl rfl (Nat.le_of_ble_eq_true rfl) ⟨Nat.zero_le _, Nat.zero_le _⟩ dX0_changeSeats_6 (fun H locs hP hD hS => ?_)
  refine W.eq (g2 := F0 m 9 ls []) rfl ?_
  refine lv_aload_n hx hb dX0_changeSeats_9 rfl (lv_at hl 0 rfl) ?_
  refine va_get (D := E.1) (ci := 0) (v := .ref (a 7)) (C := RX0) (T := TX0) (N := 10) hx hb hts inX0 hown hE.2.1 hP 0 rfl rfl 6 (by decide) (hE.w tw_41) (fun _ h9 => h9) rfl dX0_changeSeats_10 ?_
  refine lv_iload_n hx hb dX0_changeSeats_13 rfl (lv_at hl 1 rfl) ?_
  refine lv_iload_n hx hb dX0_changeSeats_14 rfl (lv_at hl 2 rfl) ?_
  obtain ⟨f5, hc4, hf⟩ := bd1_some hf
  obtain ⟨h_6, eh_6, hf⟩ := jn1_some hf
  refine cS (X := List.take 4 (wX0 E a h_3)) (Y := List.drop 5 (wX0 E a h_3)) (w := (wX0 E a h_3)) (w' := (wX0 E a h_6)) lk_X0_49 hx hb hml hown hE hA (c_X0_exchange l E (a 7) 8 (g0_freshes h_3) p1 p2 f5 hc4) rfl (by rw [eh_6]; rfl) hP hD hS ⟨rfl, rfl, Nat.le_of_ble_eq_true rfl, Nat.le_of_ble_eq_true rfl⟩ hl.1 (As := [.ref (a 7), .int p1, .int p2]) (rest := []) rfl rfl (Nat.le_of_ble_eq_true rfl) ⟨Nat.zero_le _, Nat.zero_le _⟩ dX0_changeSeats_15 (fun H locs hP hD hS => ?_)
  refine W.eq (g2 := F0 m 18 ls []) rfl ?_
  refine lv_aload_n hx hb dX0_changeSeats_18 rfl (lv_at hl 0 rfl) ?_
  refine va_get (D := E.1) (ci := 0) (v := .ref (a 8)) (C := RX0) (T := TX0) (N := 10) hx hb hts inX0 hown hE.2.1 hP 0 rfl rfl 7 (by decide) (hE.w tw_44) (fun _ h9 => h9) rfl dX0_changeSeats_19 ?_
  refine lv_iload_n hx hb dX0_changeSeats_22 rfl (lv_at hl 1 rfl) ?_
  refine lv_iload_n hx hb dX0_changeSeats_23 rfl (lv_at hl 2 rfl) ?_
  obtain ⟨f8, hc7, hf⟩ := bd1_some hf
  obtain ⟨h_9, eh_9, hf⟩ := jn1_some hf
  refine cS (X := List.take 5 (wX0 E a h_6)) (Y := List.drop 6 (wX0 E a h_6)) (w := (wX0 E a h_6)) (w' := (wX0 E a h_9)) lk_X0_49 hx hb hml hown hE hA (c_X0_exchange l E (a 8) 8 (g0_notes h_6) p1 p2 f8 hc7) rfl (by rw [eh_9]; rfl) hP hD hS ⟨rfl, rfl, Nat.le_of_ble_eq_true rfl, Nat.le_of_ble_eq_true rfl⟩ hl.1 (As := [.ref (a 8), .int p1, .int p2]) (rest := []) rfl rfl (Nat.le_of_ble_eq_true rfl) ⟨Nat.zero_le _, Nat.zero_le _⟩ dX0_changeSeats_24 (fun H locs hP hD hS => ?_)
  refine W.eq (g2 := F0 m 27 ls []) rfl ?_
  refine lv_aload_n hx hb dX0_changeSeats_27 rfl (lv_at hl 0 rfl) ?_
  refine va_get (D := E.1) (ci := 0) (v := .ref (a 9)) (C := RX0) (T := TX0) (N := 10) hx hb hts inX0 hown hE.2.1 hP 0 rfl rfl 8 (by decide) (hE.w tw_46) (fun _ h9 => h9) rfl dX0_changeSeats_28 ?_
  refine lv_iload_n hx hb dX0_changeSeats_31 rfl (lv_at hl 1 rfl) ?_
  refine lv_iload_n hx hb dX0_changeSeats_32 rfl (lv_at hl 2 rfl) ?_
  obtain ⟨f11, hc10, hf⟩ := bd1_some hf
  obtain ⟨h_12, eh_12, hf⟩ := jn1_some hf
  refine cS (X := List.take 6 (wX0 E a h_9)) (Y := List.drop 7 (wX0 E a h_9)) (w := (wX0 E a h_9)) (w' := (wX0 E a h_12)) lk_X0_49 hx hb hml hown hE hA (c_X0_exchange l E (a 9) 8 (g0_dids h_9) p1 p2 f11 hc10) rfl (by rw [eh_12]; rfl) hP hD hS ⟨rfl, rfl, Nat.le_of_ble_eq_true rfl, Nat.le_of_ble_eq_true rfl⟩ hl.1 (As := [.ref (a 9), .int p1, .int p2]) (rest := []) rfl rfl (Nat.le_of_ble_eq_true rfl) ⟨Nat.zero_le _, Nat.zero_le _⟩ dX0_changeSeats_33 (fun H locs hP hD hS => ?_)
  refine W.eq (g2 := F0 m 36 ls []) rfl ?_
  obtain rfl := so1 hf
  exact rt_v hx hb hr hlocks hP hD hS dX0_changeSeats_36
def lp_X0_tenseAll_2 (p1 : Int32) : Nat → (Int32) → (HS) → Option (HS)
  | 0, _, _ => none
  | k_1 + 1, v2_1, h_1 => if (16 : Int32) ≤ v2_1 then some (h_1) else gd v2_1 16 (jn1 (s0_tenses h_1 (upd (g0_tenses h_1) v2_1.toNatClampNeg p1)) (fun h_4 => lp_X0_tenseAll_2 p1 k_1 (v2_1 + (1 : Int32)) h_4))
def f_X0_tenseAll (h : HS) (p1 : Int32) : Option (HS) := lp_X0_tenseAll_2 p1 FU (0 : Int32) h
set_option maxHeartbeats 4000000 in
set_option maxRecDepth 100000 in
theorem c_X0_tenseAll (l : Launch) (E : EV) (a : Nat → Nat) (h : HS) (p1 : Int32)  (h' : HS) (hf : f_X0_tenseAll h p1 = some h') : Ct l E yX0_tenseAll cX0_tenseAll 3 (none) (rmk 0 0) [.ref (a 0), .int p1] (wX0 E a h) (wX0 E a h') none := by
  refine Ct.of (by decide) (Nat.le_of_ble_eq_true rfl) ?_
  intro p e s m below meth c A ls hC hP hD hl
  obtain ⟨hx, hb, hr, hml, hown, hlocks, hE, hA⟩ := hC
  have hts : ∀ w ∈ tbl, w.before [.ref (a 0), .int p1].toArray s = true := fun w hw => hE.w hw
  have hS : va_S A s.heap s.heap [] := va_S.rf
  have hl : lv_has ls 3 [(0, .ref (a 0)), (1, .int p1)] := hl
  unfold f_X0_tenseAll at hf
  refine lv_iconst (v := (0 : Int32)) hx hb dX0_tenseAll_0 (by decide) ?_
  refine lv_istore_n (lv' := [(2, .int (0 : Int32)), (0, .ref (a 0)), (1, .int p1)]) hx hb dX0_tenseAll_1 rfl hl (by decide) rfl (fun ls hl => ?_)
  have L_1 : ∀ (k_1 : Nat) (v2_1 : Int32) (h_1 : HS), lp_X0_tenseAll_2 p1 k_1 v2_1 h_1 = some h' → ∀ (H : Heap) (locs : List Loc) (ls : Array Slot), va_P E.1 vwCl (wX0 E a h_1) H → va_D A (wX0 E a h_1) → va_S A s.heap H locs → lv_has ls 3 [(2, .int v2_1), (0, .ref (a 0)), (1, .int p1)] → W p l e (rmk 0 0) s m [.ref (a 0), .int p1].toArray below meth c H locs 0 0 (MQ below (Qct E A (wX0 E a h') none) [.ref (a 0), .int p1].toArray s 0 0 A) (F0 m 2 ls []) := by
    intro k_1
    induction k_1 with
    | zero =>
      intro v2_1 h_1 hf
      rw [lp_X0_tenseAll_2] at hf
      cases hf
    | succ k_1 ih_1 =>
      intro v2_1 h_1 hf H locs ls hP hD hS hl
      rw [lp_X0_tenseAll_2] at hf
      refine lv_iload_n hx hb dX0_tenseAll_2 rfl (lv_at hl 0 rfl) ?_
      refine lv_bipush (v := (16 : Int32)) hx hb dX0_tenseAll_3 (by decide) ?_
      refine lv_icmp_ge (tgt := 21) hx hb dX0_tenseAll_5 (by decide) (fun c2 => ?_) (fun c2 => ?_)
      · have hf := ip c2 hf
        obtain rfl := so1 hf
        exact rt_v hx hb hr hlocks hP hD hS dX0_tenseAll_21
      · have hf := im c2 hf
        refine lv_aload_n hx hb dX0_tenseAll_8 rfl (lv_at hl 1 rfl) ?_
        refine va_get (D := E.1) (ci := 0) (v := .ref (a 5)) (C := RX0) (T := TX0) (N := 10) hx hb hts inX0 hown hE.2.1 hP 0 rfl rfl 4 (by decide) (hE.w tw_36) (fun _ h9 => h9) rfl dX0_tenseAll_9 ?_
        refine lv_iload_n hx hb dX0_tenseAll_12 rfl (lv_at hl 0 rfl) ?_
        refine lv_iload_n hx hb dX0_tenseAll_13 rfl (lv_at hl 2 rfl) ?_
        obtain ⟨hg3, hf⟩ := gd_some hf
        obtain ⟨h_4, eh_4, hf⟩ := jn1_some hf
        refine va_iast hx hb hE.2.1 hP hD hS 2 0 rfl rfl hg3 dX0_tenseAll_14 (fun H locs hP hD hS => ?_)
        have hP : va_P E.1 vwCl (wX0 E a h_4) H := wst (by rw [eh_4]; exact rfl) hP
        have hD : va_D A (wX0 E a h_4) := wsd (by rw [eh_4]; exact rfl) hD
        refine lv_iinc (v := (v2_1 + (1 : Int32))) (lv' := [(2, .int (v2_1 + (1 : Int32))), (0, .ref (a 0)), (1, .int p1)]) hx hb dX0_tenseAll_15 hl (k := 0) rfl rfl (by decide) rfl (fun ls hl => ?_)
        refine lv_goto (tgt := 2) hx hb dX0_tenseAll_18 (by decide) ?_
        exact ih_1 _ _ hf _ _ _ hP hD hS (lv_sub hl [0, 1, 2] rfl)
  exact L_1 _ _ _ hf _ _ _ hP hD hS (lv_sub hl [0, 1, 2] rfl)
def f_X0_allNotes (h : HS) : Option (Int32) := bd1 (f_X0_sum 8 (g0_notes h) (g0_people h)) (fun r2 => some (r2))
set_option maxHeartbeats 4000000 in
set_option maxRecDepth 100000 in
theorem c_X0_allNotes (l : Launch) (E : EV) (a : Nat → Nat) (h : HS)  (r : Int32) (hf : f_X0_allNotes h = some r) : Ct l E yX0_allNotes cX0_allNotes 1 ((Option.some FieldType.int)) (rmk 1 23) [.ref (a 0)] (wX0 E a h) (wX0 E a h) (some (.int r)) := by
  refine Ct.of (by decide) (Nat.le_of_ble_eq_true rfl) ?_
  intro p e s m below meth c A ls hC hP hD hl
  obtain ⟨hx, hb, hr, hml, hown, hlocks, hE, hA⟩ := hC
  have hts : ∀ w ∈ tbl, w.before [.ref (a 0)].toArray s = true := fun w hw => hE.w hw
  have hS : va_S A s.heap s.heap [] := va_S.rf
  have hl : lv_has ls 1 [(0, .ref (a 0))] := hl
  unfold f_X0_allNotes at hf
  refine lv_aload_n hx hb dX0_allNotes_0 rfl (lv_at hl 0 rfl) ?_
  refine va_get (D := E.1) (ci := 0) (v := .ref (a 8)) (C := RX0) (T := TX0) (N := 10) hx hb hts inX0 hown hE.2.1 hP 0 rfl rfl 7 (by decide) (hE.w tw_44) (fun _ h9 => h9) rfl dX0_allNotes_1 ?_
  refine lv_aload_n hx hb dX0_allNotes_4 rfl (lv_at hl 0 rfl) ?_
  refine va_get (D := E.1) (ci := 0) (v := .int (g0_people h)) (C := RX0) (T := TX0) (N := 10) hx hb hts inX0 hown hE.2.1 hP 0 rfl rfl 2 (by decide) (hE.w tw_30) (fun _ h9 => h9) rfl dX0_allNotes_5 ?_
  obtain ⟨r2, hc1, hf⟩ := bd1_some hf
  refine cS (X := List.take 5 (wX0 E a h)) (Y := List.drop 6 (wX0 E a h)) (w := (wX0 E a h)) (w' := (wX0 E a h)) lk_X0_53 hx hb hml hown hE hA (c_X0_sum l E (a 8) 8 (g0_notes h) (g0_people h) r2 hc1) rfl rfl hP hD hS ⟨rfl, rfl, Nat.le_of_ble_eq_true rfl, Nat.le_of_ble_eq_true rfl⟩ hl.1 (As := [.ref (a 8), .int (g0_people h)]) (rest := []) rfl rfl (Nat.le_of_ble_eq_true rfl) ⟨Nat.zero_le _, Nat.zero_le _⟩ dX0_allNotes_8 (fun H locs hP hD hS => ?_)
  refine W.eq (g2 := F0 m 11 ls [.int r2]) rfl ?_
  obtain rfl := so1 hf
  exact rt_i hx hb hr hlocks hP hD hS dX0_allNotes_11
def f_X0_allFresh (h : HS) : Option (Int32) := bd1 (f_X0_sum 8 (g0_freshes h) (g0_people h)) (fun r2 => some (r2))
set_option maxHeartbeats 4000000 in
set_option maxRecDepth 100000 in
theorem c_X0_allFresh (l : Launch) (E : EV) (a : Nat → Nat) (h : HS)  (r : Int32) (hf : f_X0_allFresh h = some r) : Ct l E yX0_allFresh cX0_allFresh 1 ((Option.some FieldType.int)) (rmk 1 23) [.ref (a 0)] (wX0 E a h) (wX0 E a h) (some (.int r)) := by
  refine Ct.of (by decide) (Nat.le_of_ble_eq_true rfl) ?_
  intro p e s m below meth c A ls hC hP hD hl
  obtain ⟨hx, hb, hr, hml, hown, hlocks, hE, hA⟩ := hC
  have hts : ∀ w ∈ tbl, w.before [.ref (a 0)].toArray s = true := fun w hw => hE.w hw
  have hS : va_S A s.heap s.heap [] := va_S.rf
  have hl : lv_has ls 1 [(0, .ref (a 0))] := hl
  unfold f_X0_allFresh at hf
  refine lv_aload_n hx hb dX0_allFresh_0 rfl (lv_at hl 0 rfl) ?_
  refine va_get (D := E.1) (ci := 0) (v := .ref (a 7)) (C := RX0) (T := TX0) (N := 10) hx hb hts inX0 hown hE.2.1 hP 0 rfl rfl 6 (by decide) (hE.w tw_41) (fun _ h9 => h9) rfl dX0_allFresh_1 ?_
  refine lv_aload_n hx hb dX0_allFresh_4 rfl (lv_at hl 0 rfl) ?_
  refine va_get (D := E.1) (ci := 0) (v := .int (g0_people h)) (C := RX0) (T := TX0) (N := 10) hx hb hts inX0 hown hE.2.1 hP 0 rfl rfl 2 (by decide) (hE.w tw_30) (fun _ h9 => h9) rfl dX0_allFresh_5 ?_
  obtain ⟨r2, hc1, hf⟩ := bd1_some hf
  refine cS (X := List.take 4 (wX0 E a h)) (Y := List.drop 5 (wX0 E a h)) (w := (wX0 E a h)) (w' := (wX0 E a h)) lk_X0_53 hx hb hml hown hE hA (c_X0_sum l E (a 7) 8 (g0_freshes h) (g0_people h) r2 hc1) rfl rfl hP hD hS ⟨rfl, rfl, Nat.le_of_ble_eq_true rfl, Nat.le_of_ble_eq_true rfl⟩ hl.1 (As := [.ref (a 7), .int (g0_people h)]) (rest := []) rfl rfl (Nat.le_of_ble_eq_true rfl) ⟨Nat.zero_le _, Nat.zero_le _⟩ dX0_allFresh_8 (fun H locs hP hD hS => ?_)
  refine W.eq (g2 := F0 m 11 ls [.int r2]) rfl ?_
  obtain rfl := so1 hf
  exact rt_i hx hb hr hlocks hP hD hS dX0_allFresh_11
def f_X0_allTense (h : HS) : Option (Int32) := bd1 (f_X0_sum 16 (g0_tenses h) (16 : Int32)) (fun r2 => some (r2))
set_option maxHeartbeats 4000000 in
set_option maxRecDepth 100000 in
theorem c_X0_allTense (l : Launch) (E : EV) (a : Nat → Nat) (h : HS)  (r : Int32) (hf : f_X0_allTense h = some r) : Ct l E yX0_allTense cX0_allTense 1 ((Option.some FieldType.int)) (rmk 1 23) [.ref (a 0)] (wX0 E a h) (wX0 E a h) (some (.int r)) := by
  refine Ct.of (by decide) (Nat.le_of_ble_eq_true rfl) ?_
  intro p e s m below meth c A ls hC hP hD hl
  obtain ⟨hx, hb, hr, hml, hown, hlocks, hE, hA⟩ := hC
  have hts : ∀ w ∈ tbl, w.before [.ref (a 0)].toArray s = true := fun w hw => hE.w hw
  have hS : va_S A s.heap s.heap [] := va_S.rf
  have hl : lv_has ls 1 [(0, .ref (a 0))] := hl
  unfold f_X0_allTense at hf
  refine lv_aload_n hx hb dX0_allTense_0 rfl (lv_at hl 0 rfl) ?_
  refine va_get (D := E.1) (ci := 0) (v := .ref (a 5)) (C := RX0) (T := TX0) (N := 10) hx hb hts inX0 hown hE.2.1 hP 0 rfl rfl 4 (by decide) (hE.w tw_36) (fun _ h9 => h9) rfl dX0_allTense_1 ?_
  refine lv_bipush (v := (16 : Int32)) hx hb dX0_allTense_4 (by decide) ?_
  obtain ⟨r2, hc1, hf⟩ := bd1_some hf
  refine cS (X := List.take 2 (wX0 E a h)) (Y := List.drop 3 (wX0 E a h)) (w := (wX0 E a h)) (w' := (wX0 E a h)) lk_X0_53 hx hb hml hown hE hA (c_X0_sum l E (a 5) 16 (g0_tenses h) (16 : Int32) r2 hc1) rfl rfl hP hD hS ⟨rfl, rfl, Nat.le_of_ble_eq_true rfl, Nat.le_of_ble_eq_true rfl⟩ hl.1 (As := [.ref (a 5), .int (16 : Int32)]) (rest := []) rfl rfl (Nat.le_of_ble_eq_true rfl) ⟨Nat.zero_le _, Nat.zero_le _⟩ dX0_allTense_6 (fun H locs hP hD hS => ?_)
  refine W.eq (g2 := F0 m 9 ls [.int r2]) rfl ?_
  obtain rfl := so1 hf
  exact rt_i hx hb hr hlocks hP hD hS dX0_allTense_9
def f_X0_neighbourDid (h : HS) (p1 : Int32) (p2 : Int32) : Option (Bool) := if p1 ≤ 0 then if (g0_people h) ≤ (p1 + (1 : Int32)) then some (false) else gd (p1 + (1 : Int32)) 8 (if ((g0_dids h) (p1 + (1 : Int32)).toNatClampNeg) = p2 then some (true) else some (false)) else gd (p1 - (1 : Int32)) 8 (if ((g0_dids h) (p1 - (1 : Int32)).toNatClampNeg) = p2 then some (true) else if (g0_people h) ≤ (p1 + (1 : Int32)) then some (false) else gd (p1 + (1 : Int32)) 8 (if ((g0_dids h) (p1 + (1 : Int32)).toNatClampNeg) = p2 then some (true) else some (false)))
set_option maxHeartbeats 4000000 in
set_option maxRecDepth 100000 in
theorem c_X0_neighbourDid (l : Launch) (E : EV) (a : Nat → Nat) (h : HS) (p1 : Int32) (p2 : Int32)  (r : Bool) (hf : f_X0_neighbourDid h p1 p2 = some r) : Ct l E yX0_neighbourDid cX0_neighbourDid 3 ((Option.some FieldType.boolean)) (rmk 0 0) [.ref (a 0), .int p1, .int p2] (wX0 E a h) (wX0 E a h) (some (.int (bI r))) := by
  refine Ct.of (by decide) (Nat.le_of_ble_eq_true rfl) ?_
  intro p e s m below meth c A ls hC hP hD hl
  obtain ⟨hx, hb, hr, hml, hown, hlocks, hE, hA⟩ := hC
  have hts : ∀ w ∈ tbl, w.before [.ref (a 0), .int p1, .int p2].toArray s = true := fun w hw => hE.w hw
  have hS : va_S A s.heap s.heap [] := va_S.rf
  have hl : lv_has ls 3 [(0, .ref (a 0)), (1, .int p1), (2, .int p2)] := hl
  unfold f_X0_neighbourDid at hf
  refine lv_iload_n hx hb dX0_neighbourDid_0 rfl (lv_at hl 1 rfl) ?_
  refine lv_if_le (tgt := 16) hx hb dX0_neighbourDid_1 (by decide) (fun c1 => ?_) (fun c1 => ?_)
  · have hf := ip c1 hf
    refine lv_iload_n hx hb dX0_neighbourDid_16 rfl (lv_at hl 1 rfl) ?_
    refine lv_iconst (v := (1 : Int32)) hx hb dX0_neighbourDid_17 (by decide) ?_
    refine lv_iadd hx hb dX0_neighbourDid_18 ?_
    refine lv_aload_n hx hb dX0_neighbourDid_19 rfl (lv_at hl 0 rfl) ?_
    refine va_get (D := E.1) (ci := 0) (v := .int (g0_people h)) (C := RX0) (T := TX0) (N := 10) hx hb hts inX0 hown hE.2.1 hP 0 rfl rfl 2 (by decide) (hE.w tw_30) (fun _ h9 => h9) rfl dX0_neighbourDid_20 ?_
    refine lv_icmp_ge (tgt := 42) hx hb dX0_neighbourDid_23 (by decide) (fun c2 => ?_) (fun c2 => ?_)
    · have hf := ip c2 hf
      refine lv_iconst (v := (0 : Int32)) hx hb dX0_neighbourDid_42 (by decide) ?_
      obtain rfl := so1 hf
      exact rt_z (bI_nar _) hx hb hr hlocks hP hD hS dX0_neighbourDid_43
    · have hf := im c2 hf
      refine lv_aload_n hx hb dX0_neighbourDid_26 rfl (lv_at hl 0 rfl) ?_
      refine va_get (D := E.1) (ci := 0) (v := .ref (a 9)) (C := RX0) (T := TX0) (N := 10) hx hb hts inX0 hown hE.2.1 hP 0 rfl rfl 8 (by decide) (hE.w tw_46) (fun _ h9 => h9) rfl dX0_neighbourDid_27 ?_
      refine lv_iload_n hx hb dX0_neighbourDid_30 rfl (lv_at hl 1 rfl) ?_
      refine lv_iconst (v := (1 : Int32)) hx hb dX0_neighbourDid_31 (by decide) ?_
      refine lv_iadd hx hb dX0_neighbourDid_32 ?_
      obtain ⟨hg3, hf⟩ := gd_some hf
      refine va_iald hx hb hE.2.1 hP 6 0 rfl rfl hg3 dX0_neighbourDid_33 ?_
      refine lv_iload_n hx hb dX0_neighbourDid_34 rfl (lv_at hl 2 rfl) ?_
      refine lv_icmp_ne (tgt := 42) hx hb dX0_neighbourDid_35 (by decide) (fun c4 => ?_) (fun c4 => ?_)
      · have hf := im c4 hf
        refine lv_iconst (v := (0 : Int32)) hx hb dX0_neighbourDid_42 (by decide) ?_
        obtain rfl := so1 hf
        exact rt_z (bI_nar _) hx hb hr hlocks hP hD hS dX0_neighbourDid_43
      · have hf := ip c4 hf
        refine lv_iconst (v := (1 : Int32)) hx hb dX0_neighbourDid_38 (by decide) ?_
        refine lv_goto (tgt := 43) hx hb dX0_neighbourDid_39 (by decide) ?_
        obtain rfl := so1 hf
        exact rt_z (bI_nar _) hx hb hr hlocks hP hD hS dX0_neighbourDid_43
  · have hf := im c1 hf
    refine lv_aload_n hx hb dX0_neighbourDid_4 rfl (lv_at hl 0 rfl) ?_
    refine va_get (D := E.1) (ci := 0) (v := .ref (a 9)) (C := RX0) (T := TX0) (N := 10) hx hb hts inX0 hown hE.2.1 hP 0 rfl rfl 8 (by decide) (hE.w tw_46) (fun _ h9 => h9) rfl dX0_neighbourDid_5 ?_
    refine lv_iload_n hx hb dX0_neighbourDid_8 rfl (lv_at hl 1 rfl) ?_
    refine lv_iconst (v := (1 : Int32)) hx hb dX0_neighbourDid_9 (by decide) ?_
    refine lv_isub hx hb dX0_neighbourDid_10 ?_
    obtain ⟨hg5, hf⟩ := gd_some hf
    refine va_iald hx hb hE.2.1 hP 6 0 rfl rfl hg5 dX0_neighbourDid_11 ?_
    refine lv_iload_n hx hb dX0_neighbourDid_12 rfl (lv_at hl 2 rfl) ?_
    refine lv_icmp_eq (tgt := 38) hx hb dX0_neighbourDid_13 (by decide) (fun c6 => ?_) (fun c6 => ?_)
    · have hf := ip c6 hf
      refine lv_iconst (v := (1 : Int32)) hx hb dX0_neighbourDid_38 (by decide) ?_
      refine lv_goto (tgt := 43) hx hb dX0_neighbourDid_39 (by decide) ?_
      obtain rfl := so1 hf
      exact rt_z (bI_nar _) hx hb hr hlocks hP hD hS dX0_neighbourDid_43
    · have hf := im c6 hf
      refine lv_iload_n hx hb dX0_neighbourDid_16 rfl (lv_at hl 1 rfl) ?_
      refine lv_iconst (v := (1 : Int32)) hx hb dX0_neighbourDid_17 (by decide) ?_
      refine lv_iadd hx hb dX0_neighbourDid_18 ?_
      refine lv_aload_n hx hb dX0_neighbourDid_19 rfl (lv_at hl 0 rfl) ?_
      refine va_get (D := E.1) (ci := 0) (v := .int (g0_people h)) (C := RX0) (T := TX0) (N := 10) hx hb hts inX0 hown hE.2.1 hP 0 rfl rfl 2 (by decide) (hE.w tw_30) (fun _ h9 => h9) rfl dX0_neighbourDid_20 ?_
      refine lv_icmp_ge (tgt := 42) hx hb dX0_neighbourDid_23 (by decide) (fun c7 => ?_) (fun c7 => ?_)
      · have hf := ip c7 hf
        refine lv_iconst (v := (0 : Int32)) hx hb dX0_neighbourDid_42 (by decide) ?_
        obtain rfl := so1 hf
        exact rt_z (bI_nar _) hx hb hr hlocks hP hD hS dX0_neighbourDid_43
      · have hf := im c7 hf
        refine lv_aload_n hx hb dX0_neighbourDid_26 rfl (lv_at hl 0 rfl) ?_
        refine va_get (D := E.1) (ci := 0) (v := .ref (a 9)) (C := RX0) (T := TX0) (N := 10) hx hb hts inX0 hown hE.2.1 hP 0 rfl rfl 8 (by decide) (hE.w tw_46) (fun _ h9 => h9) rfl dX0_neighbourDid_27 ?_
        refine lv_iload_n hx hb dX0_neighbourDid_30 rfl (lv_at hl 1 rfl) ?_
        refine lv_iconst (v := (1 : Int32)) hx hb dX0_neighbourDid_31 (by decide) ?_
        refine lv_iadd hx hb dX0_neighbourDid_32 ?_
        obtain ⟨hg8, hf⟩ := gd_some hf
        refine va_iald hx hb hE.2.1 hP 6 0 rfl rfl hg8 dX0_neighbourDid_33 ?_
        refine lv_iload_n hx hb dX0_neighbourDid_34 rfl (lv_at hl 2 rfl) ?_
        refine lv_icmp_ne (tgt := 42) hx hb dX0_neighbourDid_35 (by decide) (fun c9 => ?_) (fun c9 => ?_)
        · have hf := im c9 hf
          refine lv_iconst (v := (0 : Int32)) hx hb dX0_neighbourDid_42 (by decide) ?_
          obtain rfl := so1 hf
          exact rt_z (bI_nar _) hx hb hr hlocks hP hD hS dX0_neighbourDid_43
        · have hf := ip c9 hf
          refine lv_iconst (v := (1 : Int32)) hx hb dX0_neighbourDid_38 (by decide) ?_
          refine lv_goto (tgt := 43) hx hb dX0_neighbourDid_39 (by decide) ?_
          obtain rfl := so1 hf
          exact rt_z (bI_nar _) hx hb hr hlocks hP hD hS dX0_neighbourDid_43
def f_X0_sitterDeed (h : HS) (p1 : Int32) : Option (Int32) := gd p1 8 (gd (g0_moment h) 16 (if ((g0_freshes h) p1.toNatClampNeg) < ((g0_tenses h) (g0_moment h).toNatClampNeg) then some ((0 : Int32)) else gd (g0_moment h) 16 (some (((g0_cues h) (g0_moment h).toNatClampNeg)))))
set_option maxHeartbeats 4000000 in
set_option maxRecDepth 100000 in
theorem c_X0_sitterDeed (l : Launch) (E : EV) (a : Nat → Nat) (h : HS) (p1 : Int32)  (r : Int32) (hf : f_X0_sitterDeed h p1 = some r) : Ct l E yX0_sitterDeed cX0_sitterDeed 2 ((Option.some FieldType.int)) (rmk 0 0) [.ref (a 0), .int p1] (wX0 E a h) (wX0 E a h) (some (.int r)) := by
  refine Ct.of (by decide) (Nat.le_of_ble_eq_true rfl) ?_
  intro p e s m below meth c A ls hC hP hD hl
  obtain ⟨hx, hb, hr, hml, hown, hlocks, hE, hA⟩ := hC
  have hts : ∀ w ∈ tbl, w.before [.ref (a 0), .int p1].toArray s = true := fun w hw => hE.w hw
  have hS : va_S A s.heap s.heap [] := va_S.rf
  have hl : lv_has ls 2 [(0, .ref (a 0)), (1, .int p1)] := hl
  unfold f_X0_sitterDeed at hf
  refine lv_aload_n hx hb dX0_sitterDeed_0 rfl (lv_at hl 0 rfl) ?_
  refine va_get (D := E.1) (ci := 0) (v := .ref (a 7)) (C := RX0) (T := TX0) (N := 10) hx hb hts inX0 hown hE.2.1 hP 0 rfl rfl 6 (by decide) (hE.w tw_41) (fun _ h9 => h9) rfl dX0_sitterDeed_1 ?_
  refine lv_iload_n hx hb dX0_sitterDeed_4 rfl (lv_at hl 1 rfl) ?_
  obtain ⟨hg1, hf⟩ := gd_some hf
  refine va_iald hx hb hE.2.1 hP 4 0 rfl rfl hg1 dX0_sitterDeed_5 ?_
  refine lv_aload_n hx hb dX0_sitterDeed_6 rfl (lv_at hl 0 rfl) ?_
  refine va_get (D := E.1) (ci := 0) (v := .ref (a 5)) (C := RX0) (T := TX0) (N := 10) hx hb hts inX0 hown hE.2.1 hP 0 rfl rfl 4 (by decide) (hE.w tw_36) (fun _ h9 => h9) rfl dX0_sitterDeed_7 ?_
  refine lv_aload_n hx hb dX0_sitterDeed_10 rfl (lv_at hl 0 rfl) ?_
  refine va_get (D := E.1) (ci := 0) (v := .int (g0_moment h)) (C := RX0) (T := TX0) (N := 10) hx hb hts inX0 hown hE.2.1 hP 0 rfl rfl 1 (by decide) (hE.w tw_28) (fun _ h9 => h9) rfl dX0_sitterDeed_11 ?_
  obtain ⟨hg2, hf⟩ := gd_some hf
  refine va_iald hx hb hE.2.1 hP 2 0 rfl rfl hg2 dX0_sitterDeed_14 ?_
  refine lv_icmp_lt (tgt := 30) hx hb dX0_sitterDeed_15 (by decide) (fun c3 => ?_) (fun c3 => ?_)
  · have hf := ip c3 hf
    refine lv_iconst (v := (0 : Int32)) hx hb dX0_sitterDeed_30 (by decide) ?_
    obtain rfl := so1 hf
    exact rt_i hx hb hr hlocks hP hD hS dX0_sitterDeed_31
  · have hf := im c3 hf
    refine lv_aload_n hx hb dX0_sitterDeed_18 rfl (lv_at hl 0 rfl) ?_
    refine va_get (D := E.1) (ci := 0) (v := .ref (a 4)) (C := RX0) (T := TX0) (N := 10) hx hb hts inX0 hown hE.2.1 hP 0 rfl rfl 3 (by decide) (hE.w tw_33) (fun _ h9 => h9) rfl dX0_sitterDeed_19 ?_
    refine lv_aload_n hx hb dX0_sitterDeed_22 rfl (lv_at hl 0 rfl) ?_
    refine va_get (D := E.1) (ci := 0) (v := .int (g0_moment h)) (C := RX0) (T := TX0) (N := 10) hx hb hts inX0 hown hE.2.1 hP 0 rfl rfl 1 (by decide) (hE.w tw_28) (fun _ h9 => h9) rfl dX0_sitterDeed_23 ?_
    obtain ⟨hg4, hf⟩ := gd_some hf
    refine va_iald hx hb hE.2.1 hP 1 0 rfl rfl hg4 dX0_sitterDeed_26 ?_
    refine lv_goto (tgt := 31) hx hb dX0_sitterDeed_27 (by decide) ?_
    obtain rfl := so1 hf
    exact rt_i hx hb hr hlocks hP hD hS dX0_sitterDeed_31
def f_X0_cougherDeed (h : HS) (p1 : Int32) : Option (Int32) := bd1 (f_X0_neighbourDid h p1 (3 : Int32)) (fun r2 => if (bI r2) = 0 then bd1 (f_X0_sitterDeed h p1) (fun r5 => some (r5)) else some ((3 : Int32)))
set_option maxHeartbeats 4000000 in
set_option maxRecDepth 100000 in
theorem c_X0_cougherDeed (l : Launch) (E : EV) (a : Nat → Nat) (h : HS) (p1 : Int32)  (r : Int32) (hf : f_X0_cougherDeed h p1 = some r) : Ct l E yX0_cougherDeed cX0_cougherDeed 2 ((Option.some FieldType.int)) (rmk 1 22) [.ref (a 0), .int p1] (wX0 E a h) (wX0 E a h) (some (.int r)) := by
  refine Ct.of (by decide) (Nat.le_of_ble_eq_true rfl) ?_
  intro p e s m below meth c A ls hC hP hD hl
  obtain ⟨hx, hb, hr, hml, hown, hlocks, hE, hA⟩ := hC
  have hts : ∀ w ∈ tbl, w.before [.ref (a 0), .int p1].toArray s = true := fun w hw => hE.w hw
  have hS : va_S A s.heap s.heap [] := va_S.rf
  have hl : lv_has ls 2 [(0, .ref (a 0)), (1, .int p1)] := hl
  unfold f_X0_cougherDeed at hf
  refine lv_aload_n hx hb dX0_cougherDeed_0 rfl (lv_at hl 0 rfl) ?_
  refine lv_iload_n hx hb dX0_cougherDeed_1 rfl (lv_at hl 1 rfl) ?_
  refine lv_iconst (v := (3 : Int32)) hx hb dX0_cougherDeed_2 (by decide) ?_
  obtain ⟨r2, hc1, hf⟩ := bd1_some hf
  refine cV (X := List.take 0 (wX0 E a h)) (Y := List.drop 8 (wX0 E a h)) (w := (wX0 E a h)) (w' := (wX0 E a h)) (q0 := 0) lk_X0_67 hx hb hml hown hE hA (c_X0_neighbourDid l E a h p1 (3 : Int32) r2 hc1) rfl rfl hP hD hS rfl rfl ⟨rfl, rfl, Nat.le_of_ble_eq_true rfl, Nat.le_of_ble_eq_true rfl⟩ hl.1 (As := [.int p1, .int (3 : Int32)]) (rest := []) rfl rfl (Nat.le_of_ble_eq_true rfl) ⟨Nat.zero_le _, Nat.zero_le _⟩ dX0_cougherDeed_3 (fun H locs hP hD hS => ?_)
  refine W.eq (g2 := F0 m 6 ls [.int (bI r2)]) rfl ?_
  refine lv_if_eq (tgt := 13) hx hb dX0_cougherDeed_6 (by decide) (fun c3 => ?_) (fun c3 => ?_)
  · have hf := ip c3 hf
    refine lv_aload_n hx hb dX0_cougherDeed_13 rfl (lv_at hl 0 rfl) ?_
    refine lv_iload_n hx hb dX0_cougherDeed_14 rfl (lv_at hl 1 rfl) ?_
    obtain ⟨r5, hc4, hf⟩ := bd1_some hf
    refine cV (X := List.take 0 (wX0 E a h)) (Y := List.drop 8 (wX0 E a h)) (w := (wX0 E a h)) (w' := (wX0 E a h)) (q0 := 0) lk_X0_71 hx hb hml hown hE hA (c_X0_sitterDeed l E a h p1 r5 hc4) rfl rfl hP hD hS rfl rfl ⟨rfl, rfl, Nat.le_of_ble_eq_true rfl, Nat.le_of_ble_eq_true rfl⟩ hl.1 (As := [.int p1]) (rest := []) rfl rfl (Nat.le_of_ble_eq_true rfl) ⟨Nat.zero_le _, Nat.zero_le _⟩ dX0_cougherDeed_15 (fun H locs hP hD hS => ?_)
    refine W.eq (g2 := F0 m 18 ls [.int r5]) rfl ?_
    obtain rfl := so1 hf
    exact rt_i hx hb hr hlocks hP hD hS dX0_cougherDeed_18
  · have hf := im c3 hf
    refine lv_iconst (v := (3 : Int32)) hx hb dX0_cougherDeed_9 (by decide) ?_
    refine lv_goto (tgt := 18) hx hb dX0_cougherDeed_10 (by decide) ?_
    obtain rfl := so1 hf
    exact rt_i hx hb hr hlocks hP hD hS dX0_cougherDeed_18
def f_X0_weeperDeed (h : HS) (p1 : Int32) : Option (Int32) := gd p1 8 (if ((g0_freshes h) p1.toNatClampNeg) < (40 : Int32) then bd1 (f_X0_sitterDeed h p1) (fun r4 => some (r4)) else gd (g0_moment h) 16 (if ((g0_cues h) (g0_moment h).toNatClampNeg) = (2 : Int32) then bd1 (f_X0_sitterDeed h p1) (fun r8 => some (r8)) else some ((1 : Int32))))
set_option maxHeartbeats 4000000 in
set_option maxRecDepth 100000 in
theorem c_X0_weeperDeed (l : Launch) (E : EV) (a : Nat → Nat) (h : HS) (p1 : Int32)  (r : Int32) (hf : f_X0_weeperDeed h p1 = some r) : Ct l E yX0_weeperDeed cX0_weeperDeed 2 ((Option.some FieldType.int)) (rmk 1 21) [.ref (a 0), .int p1] (wX0 E a h) (wX0 E a h) (some (.int r)) := by
  refine Ct.of (by decide) (Nat.le_of_ble_eq_true rfl) ?_
  intro p e s m below meth c A ls hC hP hD hl
  obtain ⟨hx, hb, hr, hml, hown, hlocks, hE, hA⟩ := hC
  have hts : ∀ w ∈ tbl, w.before [.ref (a 0), .int p1].toArray s = true := fun w hw => hE.w hw
  have hS : va_S A s.heap s.heap [] := va_S.rf
  have hl : lv_has ls 2 [(0, .ref (a 0)), (1, .int p1)] := hl
  unfold f_X0_weeperDeed at hf
  refine lv_aload_n hx hb dX0_weeperDeed_0 rfl (lv_at hl 0 rfl) ?_
  refine va_get (D := E.1) (ci := 0) (v := .ref (a 7)) (C := RX0) (T := TX0) (N := 10) hx hb hts inX0 hown hE.2.1 hP 0 rfl rfl 6 (by decide) (hE.w tw_41) (fun _ h9 => h9) rfl dX0_weeperDeed_1 ?_
  refine lv_iload_n hx hb dX0_weeperDeed_4 rfl (lv_at hl 1 rfl) ?_
  obtain ⟨hg1, hf⟩ := gd_some hf
  refine va_iald hx hb hE.2.1 hP 4 0 rfl rfl hg1 dX0_weeperDeed_5 ?_
  refine lv_bipush (v := (40 : Int32)) hx hb dX0_weeperDeed_6 (by decide) ?_
  refine lv_icmp_lt (tgt := 28) hx hb dX0_weeperDeed_8 (by decide) (fun c2 => ?_) (fun c2 => ?_)
  · have hf := ip c2 hf
    refine lv_aload_n hx hb dX0_weeperDeed_28 rfl (lv_at hl 0 rfl) ?_
    refine lv_iload_n hx hb dX0_weeperDeed_29 rfl (lv_at hl 1 rfl) ?_
    obtain ⟨r4, hc3, hf⟩ := bd1_some hf
    refine cV (X := List.take 0 (wX0 E a h)) (Y := List.drop 8 (wX0 E a h)) (w := (wX0 E a h)) (w' := (wX0 E a h)) (q0 := 0) lk_X0_71 hx hb hml hown hE hA (c_X0_sitterDeed l E a h p1 r4 hc3) rfl rfl hP hD hS rfl rfl ⟨rfl, rfl, Nat.le_of_ble_eq_true rfl, Nat.le_of_ble_eq_true rfl⟩ hl.1 (As := [.int p1]) (rest := []) rfl rfl (Nat.le_of_ble_eq_true rfl) ⟨Nat.zero_le _, Nat.zero_le _⟩ dX0_weeperDeed_30 (fun H locs hP hD hS => ?_)
    refine W.eq (g2 := F0 m 33 ls [.int r4]) rfl ?_
    obtain rfl := so1 hf
    exact rt_i hx hb hr hlocks hP hD hS dX0_weeperDeed_33
  · have hf := im c2 hf
    refine lv_aload_n hx hb dX0_weeperDeed_11 rfl (lv_at hl 0 rfl) ?_
    refine va_get (D := E.1) (ci := 0) (v := .ref (a 4)) (C := RX0) (T := TX0) (N := 10) hx hb hts inX0 hown hE.2.1 hP 0 rfl rfl 3 (by decide) (hE.w tw_33) (fun _ h9 => h9) rfl dX0_weeperDeed_12 ?_
    refine lv_aload_n hx hb dX0_weeperDeed_15 rfl (lv_at hl 0 rfl) ?_
    refine va_get (D := E.1) (ci := 0) (v := .int (g0_moment h)) (C := RX0) (T := TX0) (N := 10) hx hb hts inX0 hown hE.2.1 hP 0 rfl rfl 1 (by decide) (hE.w tw_28) (fun _ h9 => h9) rfl dX0_weeperDeed_16 ?_
    obtain ⟨hg5, hf⟩ := gd_some hf
    refine va_iald hx hb hE.2.1 hP 1 0 rfl rfl hg5 dX0_weeperDeed_19 ?_
    refine lv_iconst (v := (2 : Int32)) hx hb dX0_weeperDeed_20 (by decide) ?_
    refine lv_icmp_eq (tgt := 28) hx hb dX0_weeperDeed_21 (by decide) (fun c6 => ?_) (fun c6 => ?_)
    · have hf := ip c6 hf
      refine lv_aload_n hx hb dX0_weeperDeed_28 rfl (lv_at hl 0 rfl) ?_
      refine lv_iload_n hx hb dX0_weeperDeed_29 rfl (lv_at hl 1 rfl) ?_
      obtain ⟨r8, hc7, hf⟩ := bd1_some hf
      refine cV (X := List.take 0 (wX0 E a h)) (Y := List.drop 8 (wX0 E a h)) (w := (wX0 E a h)) (w' := (wX0 E a h)) (q0 := 0) lk_X0_71 hx hb hml hown hE hA (c_X0_sitterDeed l E a h p1 r8 hc7) rfl rfl hP hD hS rfl rfl ⟨rfl, rfl, Nat.le_of_ble_eq_true rfl, Nat.le_of_ble_eq_true rfl⟩ hl.1 (As := [.int p1]) (rest := []) rfl rfl (Nat.le_of_ble_eq_true rfl) ⟨Nat.zero_le _, Nat.zero_le _⟩ dX0_weeperDeed_30 (fun H locs hP hD hS => ?_)
      refine W.eq (g2 := F0 m 33 ls [.int r8]) rfl ?_
      obtain rfl := so1 hf
      exact rt_i hx hb hr hlocks hP hD hS dX0_weeperDeed_33
    · have hf := im c6 hf
      refine lv_iconst (v := (1 : Int32)) hx hb dX0_weeperDeed_24 (by decide) ?_
      refine lv_goto (tgt := 33) hx hb dX0_weeperDeed_25 (by decide) ?_
      obtain rfl := so1 hf
      exact rt_i hx hb hr hlocks hP hD hS dX0_weeperDeed_33
def f_X0_deedOf (h : HS) (p1 : Int32) : Option (Int32) := gd p1 8 (if ((g0_kinds h) p1.toNatClampNeg) = (1 : Int32) then bd1 (f_X0_cougherDeed h p1) (fun r4 => some (r4)) else if ((g0_kinds h) p1.toNatClampNeg) = (2 : Int32) then bd1 (f_X0_weeperDeed h p1) (fun r7 => some (r7)) else if ((g0_kinds h) p1.toNatClampNeg) = (3 : Int32) then some ((0 : Int32)) else if ((g0_kinds h) p1.toNatClampNeg) = (4 : Int32) then gd (g0_moment h) 16 (if ((g0_cues h) (g0_moment h).toNatClampNeg) = (4 : Int32) then some ((4 : Int32)) else if ((g0_moment h) - ((g0_moment h) / (8 : Int32)) * (8 : Int32)) = (7 : Int32) then some ((4 : Int32)) else bd1 (f_X0_cougherDeed h p1) (fun r14 => some (r14))) else if ((g0_kinds h) p1.toNatClampNeg) = (5 : Int32) then bd1 (f_X0_neighbourDid h p1 (1 : Int32)) (fun r17 => if (bI r17) = 0 then bd1 (f_X0_weeperDeed h p1) (fun r20 => some (r20)) else some ((1 : Int32))) else bd1 (f_X0_sitterDeed h p1) (fun r22 => some (r22)))
set_option maxHeartbeats 4000000 in
set_option maxRecDepth 100000 in
theorem c_X0_deedOf (l : Launch) (E : EV) (a : Nat → Nat) (h : HS) (p1 : Int32)  (r : Int32) (hf : f_X0_deedOf h p1 = some r) : Ct l E yX0_deedOf cX0_deedOf 2 ((Option.some FieldType.int)) (rmk 2 43) [.ref (a 0), .int p1] (wX0 E a h) (wX0 E a h) (some (.int r)) := by
  refine Ct.of (by decide) (Nat.le_of_ble_eq_true rfl) ?_
  intro p e s m below meth c A ls hC hP hD hl
  obtain ⟨hx, hb, hr, hml, hown, hlocks, hE, hA⟩ := hC
  have hts : ∀ w ∈ tbl, w.before [.ref (a 0), .int p1].toArray s = true := fun w hw => hE.w hw
  have hS : va_S A s.heap s.heap [] := va_S.rf
  have hl : lv_has ls 2 [(0, .ref (a 0)), (1, .int p1)] := hl
  unfold f_X0_deedOf at hf
  refine lv_aload_n hx hb dX0_deedOf_0 rfl (lv_at hl 0 rfl) ?_
  refine va_get (D := E.1) (ci := 0) (v := .ref (a 6)) (C := RX0) (T := TX0) (N := 10) hx hb hts inX0 hown hE.2.1 hP 0 rfl rfl 5 (by decide) (hE.w tw_39) (fun _ h9 => h9) rfl dX0_deedOf_1 ?_
  refine lv_iload_n hx hb dX0_deedOf_4 rfl (lv_at hl 1 rfl) ?_
  obtain ⟨hg1, hf⟩ := gd_some hf
  refine va_iald hx hb hE.2.1 hP 3 0 rfl rfl hg1 dX0_deedOf_5 ?_
  by_cases c2 : ((g0_kinds h) p1.toNatClampNeg) = (1 : Int32)
  · have hf := ip c2 hf
    refine lv_tableIn (off := 34) (tgt := 40) hx hb dX0_deedOf_6 (by rw [c2]; decide) (by rw [c2]; decide) (by rw [c2]; rfl) (by decide) ?_
    refine lv_aload_n hx hb dX0_deedOf_40 rfl (lv_at hl 0 rfl) ?_
    refine lv_iload_n hx hb dX0_deedOf_41 rfl (lv_at hl 1 rfl) ?_
    obtain ⟨r4, hc3, hf⟩ := bd1_some hf
    refine cV (X := List.take 0 (wX0 E a h)) (Y := List.drop 8 (wX0 E a h)) (w := (wX0 E a h)) (w' := (wX0 E a h)) (q0 := 0) lk_X0_61 hx hb hml hown hE hA (c_X0_cougherDeed l E a h p1 r4 hc3) rfl rfl hP hD hS rfl rfl ⟨rfl, rfl, Nat.le_of_ble_eq_true rfl, Nat.le_of_ble_eq_true rfl⟩ hl.1 (As := [.int p1]) (rest := []) rfl rfl (Nat.le_of_ble_eq_true rfl) ⟨Nat.zero_le _, Nat.zero_le _⟩ dX0_deedOf_42 (fun H locs hP hD hS => ?_)
    refine W.eq (g2 := F0 m 45 ls [.int r4]) rfl ?_
    obtain rfl := so1 hf
    exact rt_i hx hb hr hlocks hP hD hS dX0_deedOf_45
  have hf := im c2 hf
  by_cases c5 : ((g0_kinds h) p1.toNatClampNeg) = (2 : Int32)
  · have hf := ip c5 hf
    refine lv_tableIn (off := 40) (tgt := 46) hx hb dX0_deedOf_6 (by rw [c5]; decide) (by rw [c5]; decide) (by rw [c5]; rfl) (by decide) ?_
    refine lv_aload_n hx hb dX0_deedOf_46 rfl (lv_at hl 0 rfl) ?_
    refine lv_iload_n hx hb dX0_deedOf_47 rfl (lv_at hl 1 rfl) ?_
    obtain ⟨r7, hc6, hf⟩ := bd1_some hf
    refine cV (X := List.take 0 (wX0 E a h)) (Y := List.drop 8 (wX0 E a h)) (w := (wX0 E a h)) (w' := (wX0 E a h)) (q0 := 0) lk_X0_64 hx hb hml hown hE hA (c_X0_weeperDeed l E a h p1 r7 hc6) rfl rfl hP hD hS rfl rfl ⟨rfl, rfl, Nat.le_of_ble_eq_true rfl, Nat.le_of_ble_eq_true rfl⟩ hl.1 (As := [.int p1]) (rest := []) rfl rfl (Nat.le_of_ble_eq_true rfl) ⟨Nat.zero_le _, Nat.zero_le _⟩ dX0_deedOf_48 (fun H locs hP hD hS => ?_)
    refine W.eq (g2 := F0 m 51 ls [.int r7]) rfl ?_
    obtain rfl := so1 hf
    exact rt_i hx hb hr hlocks hP hD hS dX0_deedOf_51
  have hf := im c5 hf
  by_cases c8 : ((g0_kinds h) p1.toNatClampNeg) = (3 : Int32)
  · have hf := ip c8 hf
    refine lv_tableIn (off := 46) (tgt := 52) hx hb dX0_deedOf_6 (by rw [c8]; decide) (by rw [c8]; decide) (by rw [c8]; rfl) (by decide) ?_
    refine lv_iconst (v := (0 : Int32)) hx hb dX0_deedOf_52 (by decide) ?_
    obtain rfl := so1 hf
    exact rt_i hx hb hr hlocks hP hD hS dX0_deedOf_53
  have hf := im c8 hf
  by_cases c9 : ((g0_kinds h) p1.toNatClampNeg) = (4 : Int32)
  · have hf := ip c9 hf
    refine lv_tableIn (off := 48) (tgt := 54) hx hb dX0_deedOf_6 (by rw [c9]; decide) (by rw [c9]; decide) (by rw [c9]; rfl) (by decide) ?_
    refine lv_aload_n hx hb dX0_deedOf_54 rfl (lv_at hl 0 rfl) ?_
    refine va_get (D := E.1) (ci := 0) (v := .ref (a 4)) (C := RX0) (T := TX0) (N := 10) hx hb hts inX0 hown hE.2.1 hP 0 rfl rfl 3 (by decide) (hE.w tw_33) (fun _ h9 => h9) rfl dX0_deedOf_55 ?_
    refine lv_aload_n hx hb dX0_deedOf_58 rfl (lv_at hl 0 rfl) ?_
    refine va_get (D := E.1) (ci := 0) (v := .int (g0_moment h)) (C := RX0) (T := TX0) (N := 10) hx hb hts inX0 hown hE.2.1 hP 0 rfl rfl 1 (by decide) (hE.w tw_28) (fun _ h9 => h9) rfl dX0_deedOf_59 ?_
    obtain ⟨hg10, hf⟩ := gd_some hf
    refine va_iald hx hb hE.2.1 hP 1 0 rfl rfl hg10 dX0_deedOf_62 ?_
    refine lv_iconst (v := (4 : Int32)) hx hb dX0_deedOf_63 (by decide) ?_
    refine lv_icmp_eq (tgt := 79) hx hb dX0_deedOf_64 (by decide) (fun c11 => ?_) (fun c11 => ?_)
    · have hf := ip c11 hf
      refine lv_iconst (v := (4 : Int32)) hx hb dX0_deedOf_79 (by decide) ?_
      refine lv_goto (tgt := 88) hx hb dX0_deedOf_80 (by decide) ?_
      obtain rfl := so1 hf
      exact rt_i hx hb hr hlocks hP hD hS dX0_deedOf_88
    · have hf := im c11 hf
      refine lv_aload_n hx hb dX0_deedOf_67 rfl (lv_at hl 0 rfl) ?_
      refine va_get (D := E.1) (ci := 0) (v := .int (g0_moment h)) (C := RX0) (T := TX0) (N := 10) hx hb hts inX0 hown hE.2.1 hP 0 rfl rfl 1 (by decide) (hE.w tw_28) (fun _ h9 => h9) rfl dX0_deedOf_68 ?_
      refine lv_bipush (v := (8 : Int32)) hx hb dX0_deedOf_71 (by decide) ?_
      refine lv_irem hx hb dX0_deedOf_73 (by decide) ?_
      refine lv_bipush (v := (7 : Int32)) hx hb dX0_deedOf_74 (by decide) ?_
      refine lv_icmp_ne (tgt := 83) hx hb dX0_deedOf_76 (by decide) (fun c12 => ?_) (fun c12 => ?_)
      · have hf := im c12 hf
        refine lv_aload_n hx hb dX0_deedOf_83 rfl (lv_at hl 0 rfl) ?_
        refine lv_iload_n hx hb dX0_deedOf_84 rfl (lv_at hl 1 rfl) ?_
        obtain ⟨r14, hc13, hf⟩ := bd1_some hf
        refine cV (X := List.take 0 (wX0 E a h)) (Y := List.drop 8 (wX0 E a h)) (w := (wX0 E a h)) (w' := (wX0 E a h)) (q0 := 0) lk_X0_61 hx hb hml hown hE hA (c_X0_cougherDeed l E a h p1 r14 hc13) rfl rfl hP hD hS rfl rfl ⟨rfl, rfl, Nat.le_of_ble_eq_true rfl, Nat.le_of_ble_eq_true rfl⟩ hl.1 (As := [.int p1]) (rest := []) rfl rfl (Nat.le_of_ble_eq_true rfl) ⟨Nat.zero_le _, Nat.zero_le _⟩ dX0_deedOf_85 (fun H locs hP hD hS => ?_)
        refine W.eq (g2 := F0 m 88 ls [.int r14]) rfl ?_
        obtain rfl := so1 hf
        exact rt_i hx hb hr hlocks hP hD hS dX0_deedOf_88
      · have hf := ip c12 hf
        refine lv_iconst (v := (4 : Int32)) hx hb dX0_deedOf_79 (by decide) ?_
        refine lv_goto (tgt := 88) hx hb dX0_deedOf_80 (by decide) ?_
        obtain rfl := so1 hf
        exact rt_i hx hb hr hlocks hP hD hS dX0_deedOf_88
  have hf := im c9 hf
  by_cases c15 : ((g0_kinds h) p1.toNatClampNeg) = (5 : Int32)
  · have hf := ip c15 hf
    refine lv_tableIn (off := 83) (tgt := 89) hx hb dX0_deedOf_6 (by rw [c15]; decide) (by rw [c15]; decide) (by rw [c15]; rfl) (by decide) ?_
    refine lv_aload_n hx hb dX0_deedOf_89 rfl (lv_at hl 0 rfl) ?_
    refine lv_iload_n hx hb dX0_deedOf_90 rfl (lv_at hl 1 rfl) ?_
    refine lv_iconst (v := (1 : Int32)) hx hb dX0_deedOf_91 (by decide) ?_
    obtain ⟨r17, hc16, hf⟩ := bd1_some hf
    refine cV (X := List.take 0 (wX0 E a h)) (Y := List.drop 8 (wX0 E a h)) (w := (wX0 E a h)) (w' := (wX0 E a h)) (q0 := 0) lk_X0_67 hx hb hml hown hE hA (c_X0_neighbourDid l E a h p1 (1 : Int32) r17 hc16) rfl rfl hP hD hS rfl rfl ⟨rfl, rfl, Nat.le_of_ble_eq_true rfl, Nat.le_of_ble_eq_true rfl⟩ hl.1 (As := [.int p1, .int (1 : Int32)]) (rest := []) rfl rfl (Nat.le_of_ble_eq_true rfl) ⟨Nat.zero_le _, Nat.zero_le _⟩ dX0_deedOf_92 (fun H locs hP hD hS => ?_)
    refine W.eq (g2 := F0 m 95 ls [.int (bI r17)]) rfl ?_
    refine lv_if_eq (tgt := 102) hx hb dX0_deedOf_95 (by decide) (fun c18 => ?_) (fun c18 => ?_)
    · have hf := ip c18 hf
      refine lv_aload_n hx hb dX0_deedOf_102 rfl (lv_at hl 0 rfl) ?_
      refine lv_iload_n hx hb dX0_deedOf_103 rfl (lv_at hl 1 rfl) ?_
      obtain ⟨r20, hc19, hf⟩ := bd1_some hf
      refine cV (X := List.take 0 (wX0 E a h)) (Y := List.drop 8 (wX0 E a h)) (w := (wX0 E a h)) (w' := (wX0 E a h)) (q0 := 0) lk_X0_64 hx hb hml hown hE hA (c_X0_weeperDeed l E a h p1 r20 hc19) rfl rfl hP hD hS rfl rfl ⟨rfl, rfl, Nat.le_of_ble_eq_true rfl, Nat.le_of_ble_eq_true rfl⟩ hl.1 (As := [.int p1]) (rest := []) rfl rfl (Nat.le_of_ble_eq_true rfl) ⟨Nat.zero_le _, Nat.zero_le _⟩ dX0_deedOf_104 (fun H locs hP hD hS => ?_)
      refine W.eq (g2 := F0 m 107 ls [.int r20]) rfl ?_
      obtain rfl := so1 hf
      exact rt_i hx hb hr hlocks hP hD hS dX0_deedOf_107
    · have hf := im c18 hf
      refine lv_iconst (v := (1 : Int32)) hx hb dX0_deedOf_98 (by decide) ?_
      refine lv_goto (tgt := 107) hx hb dX0_deedOf_99 (by decide) ?_
      obtain rfl := so1 hf
      exact rt_i hx hb hr hlocks hP hD hS dX0_deedOf_107
  have hf := im c15 hf
  refine lv_tableOut (tgt := 108) hx hb dX0_deedOf_6 (by have zc2 := lv_neT c2 (a := 1) (by decide); have zc5 := lv_neT c5 (a := 2) (by decide); have zc8 := lv_neT c8 (a := 3) (by decide); have zc9 := lv_neT c9 (a := 4) (by decide); have zc15 := lv_neT c15 (a := 5) (by decide); omega) (by decide) ?_
  refine lv_aload_n hx hb dX0_deedOf_108 rfl (lv_at hl 0 rfl) ?_
  refine lv_iload_n hx hb dX0_deedOf_109 rfl (lv_at hl 1 rfl) ?_
  obtain ⟨r22, hc21, hf⟩ := bd1_some hf
  refine cV (X := List.take 0 (wX0 E a h)) (Y := List.drop 8 (wX0 E a h)) (w := (wX0 E a h)) (w' := (wX0 E a h)) (q0 := 0) lk_X0_71 hx hb hml hown hE hA (c_X0_sitterDeed l E a h p1 r22 hc21) rfl rfl hP hD hS rfl rfl ⟨rfl, rfl, Nat.le_of_ble_eq_true rfl, Nat.le_of_ble_eq_true rfl⟩ hl.1 (As := [.int p1]) (rest := []) rfl rfl (Nat.le_of_ble_eq_true rfl) ⟨Nat.zero_le _, Nat.zero_le _⟩ dX0_deedOf_110 (fun H locs hP hD hS => ?_)
  refine W.eq (g2 := F0 m 113 ls [.int r22]) rfl ?_
  obtain rfl := so1 hf
  exact rt_i hx hb hr hlocks hP hD hS dX0_deedOf_113
def lp_X0_whoDoAsAsked_4 (h : HS) : Nat → (Int32) → (Int32) → Option (Int32)
  | 0, _, _ => none
  | k_1 + 1, v2_1, v1_1 => if (g0_people h) ≤ v2_1 then some (v1_1) else bd1 (f_X0_deedOf h v2_1) (fun r4 => gd (g0_moment h) 16 (jn1 (if r4 = ((g0_cues h) (g0_moment h).toNatClampNeg) then ((v1_1 ||| ((1 : Int32) <<< (v2_1 &&& 31)))) else (v1_1)) (fun x7 => lp_X0_whoDoAsAsked_4 h k_1 (v2_1 + (1 : Int32)) x7)))
def f_X0_whoDoAsAsked (h : HS) : Option (Int32) := lp_X0_whoDoAsAsked_4 h FU (0 : Int32) (0 : Int32)
set_option maxHeartbeats 4000000 in
set_option maxRecDepth 100000 in
theorem c_X0_whoDoAsAsked (l : Launch) (E : EV) (a : Nat → Nat) (h : HS)  (r : Int32) (hf : f_X0_whoDoAsAsked h = some r) : Ct l E yX0_whoDoAsAsked cX0_whoDoAsAsked 3 ((Option.some FieldType.int)) (rmk 3 64) [.ref (a 0)] (wX0 E a h) (wX0 E a h) (some (.int r)) := by
  refine Ct.of (by decide) (Nat.le_of_ble_eq_true rfl) ?_
  intro p e s m below meth c A ls hC hP hD hl
  obtain ⟨hx, hb, hr, hml, hown, hlocks, hE, hA⟩ := hC
  have hts : ∀ w ∈ tbl, w.before [.ref (a 0)].toArray s = true := fun w hw => hE.w hw
  have hS : va_S A s.heap s.heap [] := va_S.rf
  have hl : lv_has ls 3 [(0, .ref (a 0))] := hl
  unfold f_X0_whoDoAsAsked at hf
  refine lv_iconst (v := (0 : Int32)) hx hb dX0_whoDoAsAsked_0 (by decide) ?_
  refine lv_istore_n (lv' := [(1, .int (0 : Int32)), (0, .ref (a 0))]) hx hb dX0_whoDoAsAsked_1 rfl hl (by decide) rfl (fun ls hl => ?_)
  refine lv_iconst (v := (0 : Int32)) hx hb dX0_whoDoAsAsked_2 (by decide) ?_
  refine lv_istore_n (lv' := [(2, .int (0 : Int32)), (1, .int (0 : Int32)), (0, .ref (a 0))]) hx hb dX0_whoDoAsAsked_3 rfl hl (by decide) rfl (fun ls hl => ?_)
  have L_1 : ∀ (k_1 : Nat) (v2_1 : Int32) (v1_1 : Int32), lp_X0_whoDoAsAsked_4 h k_1 v2_1 v1_1 = some r → ∀ (H : Heap) (locs : List Loc) (ls : Array Slot), va_P E.1 vwCl (wX0 E a h) H → va_D A (wX0 E a h) → va_S A s.heap H locs → lv_has ls 3 [(2, .int v2_1), (1, .int v1_1), (0, .ref (a 0))] → W p l e (rmk 3 64) s m [.ref (a 0)].toArray below meth c H locs 0 0 (MQ below (Qct E A (wX0 E a h) (some (.int r))) [.ref (a 0)].toArray s 0 0 A) (F0 m 4 ls []) := by
    intro k_1
    induction k_1 with
    | zero =>
      intro v2_1 v1_1 hf
      rw [lp_X0_whoDoAsAsked_4] at hf
      cases hf
    | succ k_1 ih_1 =>
      intro v2_1 v1_1 hf H locs ls hP hD hS hl
      rw [lp_X0_whoDoAsAsked_4] at hf
      refine lv_iload_n hx hb dX0_whoDoAsAsked_4 rfl (lv_at hl 0 rfl) ?_
      refine lv_aload_n hx hb dX0_whoDoAsAsked_5 rfl (lv_at hl 2 rfl) ?_
      refine va_get (D := E.1) (ci := 0) (v := .int (g0_people h)) (C := RX0) (T := TX0) (N := 10) hx hb hts inX0 hown hE.2.1 hP 0 rfl rfl 2 (by decide) (hE.w tw_30) (fun _ h9 => h9) rfl dX0_whoDoAsAsked_6 ?_
      refine lv_icmp_ge (tgt := 41) hx hb dX0_whoDoAsAsked_9 (by decide) (fun c2 => ?_) (fun c2 => ?_)
      · have hf := ip c2 hf
        refine lv_iload_n hx hb dX0_whoDoAsAsked_41 rfl (lv_at hl 1 rfl) ?_
        obtain rfl := so1 hf
        exact rt_i hx hb hr hlocks hP hD hS dX0_whoDoAsAsked_42
      · have hf := im c2 hf
        refine lv_aload_n hx hb dX0_whoDoAsAsked_12 rfl (lv_at hl 2 rfl) ?_
        refine lv_iload_n hx hb dX0_whoDoAsAsked_13 rfl (lv_at hl 0 rfl) ?_
        obtain ⟨r4, hc3, hf⟩ := bd1_some hf
        refine cV (X := List.take 0 (wX0 E a h)) (Y := List.drop 8 (wX0 E a h)) (w := (wX0 E a h)) (w' := (wX0 E a h)) (q0 := 0) lk_X0_57 hx hb hml hown hE hA (c_X0_deedOf l E a h v2_1 r4 hc3) rfl rfl hP hD hS rfl rfl ⟨rfl, rfl, Nat.le_of_ble_eq_true rfl, Nat.le_of_ble_eq_true rfl⟩ hl.1 (As := [.int v2_1]) (rest := []) rfl rfl (Nat.le_of_ble_eq_true rfl) ⟨Nat.zero_le _, Nat.zero_le _⟩ dX0_whoDoAsAsked_14 (fun H locs hP hD hS => ?_)
        refine W.eq (g2 := F0 m 17 ls [.int r4]) rfl ?_
        refine lv_aload_n hx hb dX0_whoDoAsAsked_17 rfl (lv_at hl 2 rfl) ?_
        refine va_get (D := E.1) (ci := 0) (v := .ref (a 4)) (C := RX0) (T := TX0) (N := 10) hx hb hts inX0 hown hE.2.1 hP 0 rfl rfl 3 (by decide) (hE.w tw_33) (fun _ h9 => h9) rfl dX0_whoDoAsAsked_18 ?_
        refine lv_aload_n hx hb dX0_whoDoAsAsked_21 rfl (lv_at hl 2 rfl) ?_
        refine va_get (D := E.1) (ci := 0) (v := .int (g0_moment h)) (C := RX0) (T := TX0) (N := 10) hx hb hts inX0 hown hE.2.1 hP 0 rfl rfl 1 (by decide) (hE.w tw_28) (fun _ h9 => h9) rfl dX0_whoDoAsAsked_22 ?_
        obtain ⟨hg5, hf⟩ := gd_some hf
        refine va_iald hx hb hE.2.1 hP 1 0 rfl rfl hg5 dX0_whoDoAsAsked_25 ?_
        obtain ⟨x7, hq9, hf⟩ := jn1_some hf
        have J8 : ∀ (H : Heap) (locs : List Loc) (ls : Array Slot), va_P E.1 vwCl (wX0 E a h) H → va_D A (wX0 E a h) → va_S A s.heap H locs → lv_has ls 3 [(2, .int v2_1), (1, .int x7), (0, .ref (a 0))] → W p l e (rmk 3 64) s m [.ref (a 0)].toArray below meth c H locs 0 0 (MQ below (Qct E A (wX0 E a h) (some (.int r))) [.ref (a 0)].toArray s 0 0 A) (F0 m 35 ls []) := by
          intro H locs ls hP hD hS hl
          refine lv_iinc (v := (v2_1 + (1 : Int32))) (lv' := [(2, .int (v2_1 + (1 : Int32))), (1, .int x7), (0, .ref (a 0))]) hx hb dX0_whoDoAsAsked_35 hl (k := 0) rfl rfl (by decide) rfl (fun ls hl => ?_)
          refine lv_goto (tgt := 4) hx hb dX0_whoDoAsAsked_38 (by decide) ?_
          exact ih_1 _ _ hf _ _ _ hP hD hS (lv_sub hl [0, 1, 2] rfl)
        refine lv_icmp_ne (tgt := 35) hx hb dX0_whoDoAsAsked_26 (by decide) (fun c6 => ?_) (fun c6 => ?_)
        · have hq9 := ien c6 hq9
          obtain rfl := pj1 hq9
          exact J8 _ _ _ hP hD hS (lv_sub hl [0, 1, 2] rfl)
        · have hq9 := ie c6 hq9
          refine lv_iload_n hx hb dX0_whoDoAsAsked_29 rfl (lv_at hl 1 rfl) ?_
          refine lv_iconst (v := (1 : Int32)) hx hb dX0_whoDoAsAsked_30 (by decide) ?_
          refine lv_iload_n hx hb dX0_whoDoAsAsked_31 rfl (lv_at hl 0 rfl) ?_
          refine lv_ishl hx hb dX0_whoDoAsAsked_32 ?_
          refine lv_ior hx hb dX0_whoDoAsAsked_33 ?_
          refine lv_istore_n (lv' := [(1, .int (v1_1 ||| ((1 : Int32) <<< (v2_1 &&& 31)))), (2, .int v2_1), (0, .ref (a 0))]) hx hb dX0_whoDoAsAsked_34 rfl hl (by decide) rfl (fun ls hl => ?_)
          obtain rfl := pj1 hq9
          exact J8 _ _ _ hP hD hS (lv_sub hl [1, 0, 2] rfl)
  exact L_1 _ _ _ hf _ _ _ hP hD hS (lv_sub hl [0, 1, 2] rfl)
def lp_X0_howManyDo_4 (h : HS) (p1 : Int32) : Nat → (Int32) → (Int32) → Option (Int32)
  | 0, _, _ => none
  | k_1 + 1, v3_1, v2_1 => if (g0_people h) ≤ v3_1 then some (v2_1) else bd1 (f_X0_deedOf h v3_1) (fun r4 => jn1 (if r4 = p1 then ((v2_1 + (1 : Int32))) else (v2_1)) (fun x6 => lp_X0_howManyDo_4 h p1 k_1 (v3_1 + (1 : Int32)) x6))
def f_X0_howManyDo (h : HS) (p1 : Int32) : Option (Int32) := lp_X0_howManyDo_4 h p1 FU (0 : Int32) (0 : Int32)
set_option maxHeartbeats 4000000 in
set_option maxRecDepth 100000 in
theorem c_X0_howManyDo (l : Launch) (E : EV) (a : Nat → Nat) (h : HS) (p1 : Int32)  (r : Int32) (hf : f_X0_howManyDo h p1 = some r) : Ct l E yX0_howManyDo cX0_howManyDo 4 ((Option.some FieldType.int)) (rmk 3 64) [.ref (a 0), .int p1] (wX0 E a h) (wX0 E a h) (some (.int r)) := by
  refine Ct.of (by decide) (Nat.le_of_ble_eq_true rfl) ?_
  intro p e s m below meth c A ls hC hP hD hl
  obtain ⟨hx, hb, hr, hml, hown, hlocks, hE, hA⟩ := hC
  have hts : ∀ w ∈ tbl, w.before [.ref (a 0), .int p1].toArray s = true := fun w hw => hE.w hw
  have hS : va_S A s.heap s.heap [] := va_S.rf
  have hl : lv_has ls 4 [(0, .ref (a 0)), (1, .int p1)] := hl
  unfold f_X0_howManyDo at hf
  refine lv_iconst (v := (0 : Int32)) hx hb dX0_howManyDo_0 (by decide) ?_
  refine lv_istore_n (lv' := [(2, .int (0 : Int32)), (0, .ref (a 0)), (1, .int p1)]) hx hb dX0_howManyDo_1 rfl hl (by decide) rfl (fun ls hl => ?_)
  refine lv_iconst (v := (0 : Int32)) hx hb dX0_howManyDo_2 (by decide) ?_
  refine lv_istore_n (lv' := [(3, .int (0 : Int32)), (2, .int (0 : Int32)), (0, .ref (a 0)), (1, .int p1)]) hx hb dX0_howManyDo_3 rfl hl (by decide) rfl (fun ls hl => ?_)
  have L_1 : ∀ (k_1 : Nat) (v3_1 : Int32) (v2_1 : Int32), lp_X0_howManyDo_4 h p1 k_1 v3_1 v2_1 = some r → ∀ (H : Heap) (locs : List Loc) (ls : Array Slot), va_P E.1 vwCl (wX0 E a h) H → va_D A (wX0 E a h) → va_S A s.heap H locs → lv_has ls 4 [(3, .int v3_1), (2, .int v2_1), (0, .ref (a 0)), (1, .int p1)] → W p l e (rmk 3 64) s m [.ref (a 0), .int p1].toArray below meth c H locs 0 0 (MQ below (Qct E A (wX0 E a h) (some (.int r))) [.ref (a 0), .int p1].toArray s 0 0 A) (F0 m 4 ls []) := by
    intro k_1
    induction k_1 with
    | zero =>
      intro v3_1 v2_1 hf
      rw [lp_X0_howManyDo_4] at hf
      cases hf
    | succ k_1 ih_1 =>
      intro v3_1 v2_1 hf H locs ls hP hD hS hl
      rw [lp_X0_howManyDo_4] at hf
      refine lv_iload_n hx hb dX0_howManyDo_4 rfl (lv_at hl 0 rfl) ?_
      refine lv_aload_n hx hb dX0_howManyDo_5 rfl (lv_at hl 2 rfl) ?_
      refine va_get (D := E.1) (ci := 0) (v := .int (g0_people h)) (C := RX0) (T := TX0) (N := 10) hx hb hts inX0 hown hE.2.1 hP 0 rfl rfl 2 (by decide) (hE.w tw_30) (fun _ h9 => h9) rfl dX0_howManyDo_6 ?_
      refine lv_icmp_ge (tgt := 30) hx hb dX0_howManyDo_9 (by decide) (fun c2 => ?_) (fun c2 => ?_)
      · have hf := ip c2 hf
        refine lv_iload_n hx hb dX0_howManyDo_30 rfl (lv_at hl 1 rfl) ?_
        obtain rfl := so1 hf
        exact rt_i hx hb hr hlocks hP hD hS dX0_howManyDo_31
      · have hf := im c2 hf
        refine lv_aload_n hx hb dX0_howManyDo_12 rfl (lv_at hl 2 rfl) ?_
        refine lv_iload_n hx hb dX0_howManyDo_13 rfl (lv_at hl 0 rfl) ?_
        obtain ⟨r4, hc3, hf⟩ := bd1_some hf
        refine cV (X := List.take 0 (wX0 E a h)) (Y := List.drop 8 (wX0 E a h)) (w := (wX0 E a h)) (w' := (wX0 E a h)) (q0 := 0) lk_X0_57 hx hb hml hown hE hA (c_X0_deedOf l E a h v3_1 r4 hc3) rfl rfl hP hD hS rfl rfl ⟨rfl, rfl, Nat.le_of_ble_eq_true rfl, Nat.le_of_ble_eq_true rfl⟩ hl.1 (As := [.int v3_1]) (rest := []) rfl rfl (Nat.le_of_ble_eq_true rfl) ⟨Nat.zero_le _, Nat.zero_le _⟩ dX0_howManyDo_14 (fun H locs hP hD hS => ?_)
        refine W.eq (g2 := F0 m 17 ls [.int r4]) rfl ?_
        refine lv_iload_n hx hb dX0_howManyDo_17 rfl (lv_at hl 3 rfl) ?_
        obtain ⟨x6, hq8, hf⟩ := jn1_some hf
        have J7 : ∀ (H : Heap) (locs : List Loc) (ls : Array Slot), va_P E.1 vwCl (wX0 E a h) H → va_D A (wX0 E a h) → va_S A s.heap H locs → lv_has ls 4 [(3, .int v3_1), (2, .int x6), (0, .ref (a 0)), (1, .int p1)] → W p l e (rmk 3 64) s m [.ref (a 0), .int p1].toArray below meth c H locs 0 0 (MQ below (Qct E A (wX0 E a h) (some (.int r))) [.ref (a 0), .int p1].toArray s 0 0 A) (F0 m 24 ls []) := by
          intro H locs ls hP hD hS hl
          refine lv_iinc (v := (v3_1 + (1 : Int32))) (lv' := [(3, .int (v3_1 + (1 : Int32))), (2, .int x6), (0, .ref (a 0)), (1, .int p1)]) hx hb dX0_howManyDo_24 hl (k := 0) rfl rfl (by decide) rfl (fun ls hl => ?_)
          refine lv_goto (tgt := 4) hx hb dX0_howManyDo_27 (by decide) ?_
          exact ih_1 _ _ hf _ _ _ hP hD hS (lv_sub hl [0, 1, 2, 3] rfl)
        refine lv_icmp_ne (tgt := 24) hx hb dX0_howManyDo_18 (by decide) (fun c5 => ?_) (fun c5 => ?_)
        · have hq8 := ien c5 hq8
          obtain rfl := pj1 hq8
          exact J7 _ _ _ hP hD hS (lv_sub hl [0, 1, 2, 3] rfl)
        · have hq8 := ie c5 hq8
          refine lv_iinc (v := (v2_1 + (1 : Int32))) (lv' := [(2, .int (v2_1 + (1 : Int32))), (3, .int v3_1), (0, .ref (a 0)), (1, .int p1)]) hx hb dX0_howManyDo_21 hl (k := 1) rfl rfl (by decide) rfl (fun ls hl => ?_)
          obtain rfl := pj1 hq8
          exact J7 _ _ _ hP hD hS (lv_sub hl [1, 0, 2, 3] rfl)
  exact L_1 _ _ _ hf _ _ _ hP hD hS (lv_sub hl [0, 1, 2, 3] rfl)
def f_X0_seat (h : HS) (p1 : Int32) (p2 : Int32) : Option (Int32 × HS) := bd1 (if (8 : Int32) ≤ (g0_people h) then some (h) else gd (g0_people h) 8 (jn1 (s0_kinds h (upd (g0_kinds h) (g0_people h).toNatClampNeg p1)) (fun h_6 => gd (g0_people h) 8 (jn1 (s0_freshes h_6 (upd (g0_freshes h_6) (g0_people h).toNatClampNeg p2)) (fun h_8 => gd (g0_people h) 8 (jn1 (s0_notes h_8 (upd (g0_notes h_8) (g0_people h).toNatClampNeg (0 : Int32))) (fun h_10 => gd (g0_people h) 8 (jn1 (s0_dids h_10 (upd (g0_dids h_10) (g0_people h).toNatClampNeg (0 : Int32))) (fun h_12 => jn1 (s0_people h_12 ((g0_people h_12) + (1 : Int32))) (fun h_13 => some (h_13))))))))))) (fun h2 => some ((g0_people h), h2))
set_option maxHeartbeats 4000000 in
set_option maxRecDepth 100000 in
theorem c_X0_seat (l : Launch) (E : EV) (a : Nat → Nat) (h : HS) (p1 : Int32) (p2 : Int32)  (r : Int32) (h' : HS) (hf : f_X0_seat h p1 p2 = some (r, h')) : Ct l E yX0_seat cX0_seat 4 ((Option.some FieldType.int)) (rmk 0 0) [.ref (a 0), .int p1, .int p2] (wX0 E a h) (wX0 E a h') (some (.int r)) := by
  refine Ct.of (by decide) (Nat.le_of_ble_eq_true rfl) ?_
  intro p e s m below meth c A ls hC hP hD hl
  obtain ⟨hx, hb, hr, hml, hown, hlocks, hE, hA⟩ := hC
  have hts : ∀ w ∈ tbl, w.before [.ref (a 0), .int p1, .int p2].toArray s = true := fun w hw => hE.w hw
  have hS : va_S A s.heap s.heap [] := va_S.rf
  have hl : lv_has ls 4 [(0, .ref (a 0)), (1, .int p1), (2, .int p2)] := hl
  unfold f_X0_seat at hf
  refine lv_aload_n hx hb dX0_seat_0 rfl (lv_at hl 0 rfl) ?_
  refine va_get (D := E.1) (ci := 0) (v := .int (g0_people h)) (C := RX0) (T := TX0) (N := 10) hx hb hts inX0 hown hE.2.1 hP 0 rfl rfl 2 (by decide) (hE.w tw_30) (fun _ h9 => h9) rfl dX0_seat_1 ?_
  refine lv_istore_n (lv' := [(3, .int (g0_people h)), (0, .ref (a 0)), (1, .int p1), (2, .int p2)]) hx hb dX0_seat_4 rfl hl (by decide) rfl (fun ls hl => ?_)
  refine lv_iload_n hx hb dX0_seat_5 rfl (lv_at hl 0 rfl) ?_
  refine lv_bipush (v := (8 : Int32)) hx hb dX0_seat_6 (by decide) ?_
  obtain ⟨h2, hq4, hf⟩ := bd1_some hf
  have J3 : ∀ (H : Heap) (locs : List Loc) (ls : Array Slot), va_P E.1 vwCl (wX0 E a h2) H → va_D A (wX0 E a h2) → va_S A s.heap H locs → lv_has ls 4 [(3, .int (g0_people h)), (0, .ref (a 0)), (1, .int p1), (2, .int p2)] → W p l e (rmk 0 0) s m [.ref (a 0), .int p1, .int p2].toArray below meth c H locs 0 0 (MQ below (Qct E A (wX0 E a h') (some (.int r))) [.ref (a 0), .int p1, .int p2].toArray s 0 0 A) (F0 m 49 ls []) := by
    intro H locs ls hP hD hS hl
    refine lv_iload_n hx hb dX0_seat_49 rfl (lv_at hl 0 rfl) ?_
    obtain ⟨rfl, rfl⟩ := so2 hf
    exact rt_i hx hb hr hlocks hP hD hS dX0_seat_50
  refine lv_icmp_ge (tgt := 49) hx hb dX0_seat_8 (by decide) (fun c1 => ?_) (fun c1 => ?_)
  · have hq4 := ip c1 hq4
    obtain rfl := so1 hq4
    exact J3 _ _ _ hP hD hS (lv_sub hl [0, 1, 2, 3] rfl)
  · have hq4 := im c1 hq4
    refine lv_aload_n hx hb dX0_seat_11 rfl (lv_at hl 1 rfl) ?_
    refine va_get (D := E.1) (ci := 0) (v := .ref (a 6)) (C := RX0) (T := TX0) (N := 10) hx hb hts inX0 hown hE.2.1 hP 0 rfl rfl 5 (by decide) (hE.w tw_39) (fun _ h9 => h9) rfl dX0_seat_12 ?_
    refine lv_iload_n hx hb dX0_seat_15 rfl (lv_at hl 0 rfl) ?_
    refine lv_iload_n hx hb dX0_seat_16 rfl (lv_at hl 2 rfl) ?_
    obtain ⟨hg5, hq4⟩ := gd_some hq4
    obtain ⟨h_6, eh_6, hq4⟩ := jn1_some hq4
    refine va_iast hx hb hE.2.1 hP hD hS 3 0 rfl rfl hg5 dX0_seat_17 (fun H locs hP hD hS => ?_)
    have hP : va_P E.1 vwCl (wX0 E a h_6) H := wst (by rw [eh_6]; exact rfl) hP
    have hD : va_D A (wX0 E a h_6) := wsd (by rw [eh_6]; exact rfl) hD
    refine lv_aload_n hx hb dX0_seat_18 rfl (lv_at hl 1 rfl) ?_
    refine va_get (D := E.1) (ci := 0) (v := .ref (a 7)) (C := RX0) (T := TX0) (N := 10) hx hb hts inX0 hown hE.2.1 hP 0 rfl rfl 6 (by decide) (hE.w tw_41) (fun _ h9 => h9) rfl dX0_seat_19 ?_
    refine lv_iload_n hx hb dX0_seat_22 rfl (lv_at hl 0 rfl) ?_
    refine lv_iload_n hx hb dX0_seat_23 rfl (lv_at hl 3 rfl) ?_
    obtain ⟨hg7, hq4⟩ := gd_some hq4
    obtain ⟨h_8, eh_8, hq4⟩ := jn1_some hq4
    refine va_iast hx hb hE.2.1 hP hD hS 4 0 rfl rfl hg7 dX0_seat_24 (fun H locs hP hD hS => ?_)
    have hP : va_P E.1 vwCl (wX0 E a h_8) H := wst (by rw [eh_8]; exact rfl) hP
    have hD : va_D A (wX0 E a h_8) := wsd (by rw [eh_8]; exact rfl) hD
    refine lv_aload_n hx hb dX0_seat_25 rfl (lv_at hl 1 rfl) ?_
    refine va_get (D := E.1) (ci := 0) (v := .ref (a 8)) (C := RX0) (T := TX0) (N := 10) hx hb hts inX0 hown hE.2.1 hP 0 rfl rfl 7 (by decide) (hE.w tw_44) (fun _ h9 => h9) rfl dX0_seat_26 ?_
    refine lv_iload_n hx hb dX0_seat_29 rfl (lv_at hl 0 rfl) ?_
    refine lv_iconst (v := (0 : Int32)) hx hb dX0_seat_30 (by decide) ?_
    obtain ⟨hg9, hq4⟩ := gd_some hq4
    obtain ⟨h_10, eh_10, hq4⟩ := jn1_some hq4
    refine va_iast hx hb hE.2.1 hP hD hS 5 0 rfl rfl hg9 dX0_seat_31 (fun H locs hP hD hS => ?_)
    have hP : va_P E.1 vwCl (wX0 E a h_10) H := wst (by rw [eh_10]; exact rfl) hP
    have hD : va_D A (wX0 E a h_10) := wsd (by rw [eh_10]; exact rfl) hD
    refine lv_aload_n hx hb dX0_seat_32 rfl (lv_at hl 1 rfl) ?_
    refine va_get (D := E.1) (ci := 0) (v := .ref (a 9)) (C := RX0) (T := TX0) (N := 10) hx hb hts inX0 hown hE.2.1 hP 0 rfl rfl 8 (by decide) (hE.w tw_46) (fun _ h9 => h9) rfl dX0_seat_33 ?_
    refine lv_iload_n hx hb dX0_seat_36 rfl (lv_at hl 0 rfl) ?_
    refine lv_iconst (v := (0 : Int32)) hx hb dX0_seat_37 (by decide) ?_
    obtain ⟨hg11, hq4⟩ := gd_some hq4
    obtain ⟨h_12, eh_12, hq4⟩ := jn1_some hq4
    refine va_iast hx hb hE.2.1 hP hD hS 6 0 rfl rfl hg11 dX0_seat_38 (fun H locs hP hD hS => ?_)
    have hP : va_P E.1 vwCl (wX0 E a h_12) H := wst (by rw [eh_12]; exact rfl) hP
    have hD : va_D A (wX0 E a h_12) := wsd (by rw [eh_12]; exact rfl) hD
    refine lv_aload_n hx hb dX0_seat_39 rfl (lv_at hl 1 rfl) ?_
    refine lv_dup hx hb dX0_seat_40 rfl ?_
    refine va_get (D := E.1) (ci := 0) (v := .int (g0_people h_12)) (C := RX0) (T := TX0) (N := 10) hx hb hts inX0 hown hE.2.1 hP 0 rfl rfl 2 (by decide) (hE.w tw_30) (fun _ h9 => h9) rfl dX0_seat_41 ?_
    refine lv_iconst (v := (1 : Int32)) hx hb dX0_seat_44 (by decide) ?_
    refine lv_iadd hx hb dX0_seat_45 ?_
    obtain ⟨h_13, eh_13, hq4⟩ := jn1_some hq4
    refine va_put (D := E.1) (ci := 0) (v := .int ((g0_people h_12) + (1 : Int32))) (ty := .int) (C := RX0) (T := TX0) (N := 10) hx hb hts inX0 tyX0 tyX0_ok nmX0 hown hE.2.1 hP hD hS 0 rfl rfl 2 (by decide) (hE.w tw_30) (fun _ h9 => h9) rfl (by decide +kernel) rfl rfl (Nat.le_of_ble_eq_true rfl) dX0_seat_46 (fun H locs hP hD hS => ?_)
    have hP : va_P E.1 vwCl (wX0 E a h_13) H := wst (by rw [eh_13]; exact rfl) hP
    have hD : va_D A (wX0 E a h_13) := wsd (by rw [eh_13]; exact rfl) hD
    obtain rfl := so1 hq4
    exact J3 _ _ _ hP hD hS (lv_sub hl [0, 1, 2, 3] rfl)
