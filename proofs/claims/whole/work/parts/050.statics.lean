def f_X3_isIn (p1 : Int32) (p2 : Int32) (p3 : Int32) : Option (Bool) := if p1 < p2 then some (false) else if p3 < p1 then some (false) else some (true)
set_option maxHeartbeats 4000000 in
set_option maxRecDepth 100000 in
theorem c_X3_isIn (l : Launch) (E : EV)  (p1 : Int32) (p2 : Int32) (p3 : Int32)  (r : Bool) (hf : f_X3_isIn p1 p2 p3 = some r) : Ct l E yX3_isIn cX3_isIn 3 ((Option.some FieldType.boolean)) (rmk 0 0) [.int p1, .int p2, .int p3] ([] : va_W) ([] : va_W) (some (.int (bI r))) := by
  refine Ct.of (by decide) (Nat.le_of_ble_eq_true rfl) ?_
  intro p e s m below meth c A ls hC hP hD hl
  obtain ⟨hx, hb, hr, hml, hown, hlocks, hE, hA⟩ := hC
  have hts : ∀ w ∈ tbl, w.before [.int p1, .int p2, .int p3].toArray s = true := fun w hw => hE.w hw
  have hS : va_S A s.heap s.heap [] := va_S.rf
  have hl : lv_has ls 3 [(0, .int p1), (1, .int p2), (2, .int p3)] := hl
  unfold f_X3_isIn at hf
  refine lv_iload_n hx hb dX3_isIn_0 rfl (lv_at hl 0 rfl) ?_
  refine lv_iload_n hx hb dX3_isIn_1 rfl (lv_at hl 1 rfl) ?_
  refine lv_icmp_lt (tgt := 14) hx hb dX3_isIn_2 (by decide) (fun c1 => ?_) (fun c1 => ?_)
  · have hf := ip c1 hf
    refine lv_iconst (v := (0 : Int32)) hx hb dX3_isIn_14 (by decide) ?_
    obtain rfl := so1 hf
    exact rt_z (bI_nar _) hx hb hr hlocks hP hD hS dX3_isIn_15
  · have hf := im c1 hf
    refine lv_iload_n hx hb dX3_isIn_5 rfl (lv_at hl 0 rfl) ?_
    refine lv_iload_n hx hb dX3_isIn_6 rfl (lv_at hl 2 rfl) ?_
    refine lv_icmp_gt (tgt := 14) hx hb dX3_isIn_7 (by decide) (fun c2 => ?_) (fun c2 => ?_)
    · have hf := ip c2 hf
      refine lv_iconst (v := (0 : Int32)) hx hb dX3_isIn_14 (by decide) ?_
      obtain rfl := so1 hf
      exact rt_z (bI_nar _) hx hb hr hlocks hP hD hS dX3_isIn_15
    · have hf := im c2 hf
      refine lv_iconst (v := (1 : Int32)) hx hb dX3_isIn_10 (by decide) ?_
      refine lv_goto (tgt := 15) hx hb dX3_isIn_11 (by decide) ?_
      obtain rfl := so1 hf
      exact rt_z (bI_nar _) hx hb hr hlocks hP hD hS dX3_isIn_15
def f_X3_held (p1 : Int32) (p2 : Int32) (p3 : Int32) : Option (Int32) := some ((if p2 < (if p1 < p3 then p1 else p3) then (if p1 < p3 then p1 else p3) else p2))
set_option maxHeartbeats 4000000 in
set_option maxRecDepth 100000 in
theorem c_X3_held (l : Launch) (E : EV)  (p1 : Int32) (p2 : Int32) (p3 : Int32)  (r : Int32) (hf : f_X3_held p1 p2 p3 = some r) : Ct l E yX3_held cX3_held 3 ((Option.some FieldType.int)) (rmk 1 14) [.int p1, .int p2, .int p3] ([] : va_W) ([] : va_W) (some (.int r)) := by
  refine Ct.of (by decide) (Nat.le_of_ble_eq_true rfl) ?_
  intro p e s m below meth c A ls hC hP hD hl
  obtain ⟨hx, hb, hr, hml, hown, hlocks, hE, hA⟩ := hC
  have hts : ∀ w ∈ tbl, w.before [.int p1, .int p2, .int p3].toArray s = true := fun w hw => hE.w hw
  have hS : va_S A s.heap s.heap [] := va_S.rf
  have hl : lv_has ls 3 [(0, .int p1), (1, .int p2), (2, .int p3)] := hl
  unfold f_X3_held at hf
  refine lv_iload_n hx hb dX3_held_0 rfl (lv_at hl 1 rfl) ?_
  refine lv_iload_n hx hb dX3_held_1 rfl (lv_at hl 2 rfl) ?_
  refine lv_iload_n hx hb dX3_held_2 rfl (lv_at hl 0 rfl) ?_
  refine va_mmin hx hb (hml.trans hl.1.symm) hown (hE.w tw_278) (hE.w tw_279) (hE.w tw_6) (hE.w tw_280) (Nat.le_of_ble_eq_true rfl) (Nat.le_of_ble_eq_true rfl) (Nat.zero_le _) (Nat.zero_le _) dX3_held_3 ?_
  refine va_mmax hx hb (hml.trans hl.1.symm) hown (hE.w tw_229) (hE.w tw_230) (hE.w tw_6) (hE.w tw_231) (Nat.le_of_ble_eq_true rfl) (Nat.le_of_ble_eq_true rfl) (Nat.zero_le _) (Nat.zero_le _) dX3_held_6 ?_
  obtain rfl := so1 hf
  exact rt_i hx hb hr hlocks hP hD hS dX3_held_9
def f_X3_sitterScore (p1 : Int32) (p2 : Int32) : Option (Int32) := if p1 = p2 then some ((3 : Int32)) else if p1 = 0 then some ((-1 : Int32)) else some ((-2 : Int32))
set_option maxHeartbeats 4000000 in
set_option maxRecDepth 100000 in
theorem c_X3_sitterScore (l : Launch) (E : EV)  (p1 : Int32) (p2 : Int32)  (r : Int32) (hf : f_X3_sitterScore p1 p2 = some r) : Ct l E yX3_sitterScore cX3_sitterScore 2 ((Option.some FieldType.int)) (rmk 0 0) [.int p1, .int p2] ([] : va_W) ([] : va_W) (some (.int r)) := by
  refine Ct.of (by decide) (Nat.le_of_ble_eq_true rfl) ?_
  intro p e s m below meth c A ls hC hP hD hl
  obtain ⟨hx, hb, hr, hml, hown, hlocks, hE, hA⟩ := hC
  have hts : ∀ w ∈ tbl, w.before [.int p1, .int p2].toArray s = true := fun w hw => hE.w hw
  have hS : va_S A s.heap s.heap [] := va_S.rf
  have hl : lv_has ls 2 [(0, .int p1), (1, .int p2)] := hl
  unfold f_X3_sitterScore at hf
  refine lv_iload_n hx hb dX3_sitterScore_0 rfl (lv_at hl 0 rfl) ?_
  refine lv_iload_n hx hb dX3_sitterScore_1 rfl (lv_at hl 1 rfl) ?_
  refine lv_icmp_ne (tgt := 7) hx hb dX3_sitterScore_2 (by decide) (fun c1 => ?_) (fun c1 => ?_)
  · have hf := im c1 hf
    refine lv_iload_n hx hb dX3_sitterScore_7 rfl (lv_at hl 0 rfl) ?_
    refine lv_if_ne (tgt := 15) hx hb dX3_sitterScore_8 (by decide) (fun c2 => ?_) (fun c2 => ?_)
    · have hf := im c2 hf
      refine lv_bipush (v := (-2 : Int32)) hx hb dX3_sitterScore_15 (by decide) ?_
      obtain rfl := so1 hf
      exact rt_i hx hb hr hlocks hP hD hS dX3_sitterScore_17
    · have hf := ip c2 hf
      refine lv_iconst (v := (-1 : Int32)) hx hb dX3_sitterScore_11 (by decide) ?_
      refine lv_goto (tgt := 17) hx hb dX3_sitterScore_12 (by decide) ?_
      obtain rfl := so1 hf
      exact rt_i hx hb hr hlocks hP hD hS dX3_sitterScore_17
  · have hf := ip c1 hf
    refine lv_iconst (v := (3 : Int32)) hx hb dX3_sitterScore_5 (by decide) ?_
    obtain rfl := so1 hf
    exact rt_i hx hb hr hlocks hP hD hS dX3_sitterScore_6
def f_X3_cougherScore (p1 : Int32) (p2 : Int32) : Option (Int32) := if p1 = (3 : Int32) then if p2 = (3 : Int32) then some ((5 : Int32)) else bd1 (f_X3_sitterScore p1 p2) (fun r6 => some (r6)) else bd1 (f_X3_sitterScore p1 p2) (fun r3 => some (r3))
set_option maxHeartbeats 4000000 in
set_option maxRecDepth 100000 in
theorem c_X3_cougherScore (l : Launch) (E : EV)  (p1 : Int32) (p2 : Int32)  (r : Int32) (hf : f_X3_cougherScore p1 p2 = some r) : Ct l E yX3_cougherScore cX3_cougherScore 2 ((Option.some FieldType.int)) (rmk 1 21) [.int p1, .int p2] ([] : va_W) ([] : va_W) (some (.int r)) := by
  refine Ct.of (by decide) (Nat.le_of_ble_eq_true rfl) ?_
  intro p e s m below meth c A ls hC hP hD hl
  obtain ⟨hx, hb, hr, hml, hown, hlocks, hE, hA⟩ := hC
  have hts : ∀ w ∈ tbl, w.before [.int p1, .int p2].toArray s = true := fun w hw => hE.w hw
  have hS : va_S A s.heap s.heap [] := va_S.rf
  have hl : lv_has ls 2 [(0, .int p1), (1, .int p2)] := hl
  unfold f_X3_cougherScore at hf
  refine lv_iload_n hx hb dX3_cougherScore_0 rfl (lv_at hl 0 rfl) ?_
  refine lv_iconst (v := (3 : Int32)) hx hb dX3_cougherScore_1 (by decide) ?_
  refine lv_icmp_ne (tgt := 14) hx hb dX3_cougherScore_2 (by decide) (fun c1 => ?_) (fun c1 => ?_)
  · have hf := im c1 hf
    refine lv_iload_n hx hb dX3_cougherScore_14 rfl (lv_at hl 0 rfl) ?_
    refine lv_iload_n hx hb dX3_cougherScore_15 rfl (lv_at hl 1 rfl) ?_
    obtain ⟨r3, hc2, hf⟩ := bd1_some hf
    refine cS (X := List.take 0 ([] : va_W)) (Y := List.drop 0 ([] : va_W)) (w := ([] : va_W)) (w' := ([] : va_W)) lk_X3_221 hx hb hml hown hE hA (c_X3_sitterScore l E p1 p2 r3 hc2) rfl rfl hP hD hS ⟨rfl, rfl, Nat.le_of_ble_eq_true rfl, Nat.le_of_ble_eq_true rfl⟩ hl.1 (As := [.int p1, .int p2]) (rest := []) rfl rfl (Nat.le_of_ble_eq_true rfl) ⟨Nat.zero_le _, Nat.zero_le _⟩ dX3_cougherScore_16 (fun H locs hP hD hS => ?_)
    refine W.eq (g2 := F0 m 19 ls [.int r3]) rfl ?_
    obtain rfl := so1 hf
    exact rt_i hx hb hr hlocks hP hD hS dX3_cougherScore_19
  · have hf := ip c1 hf
    refine lv_iload_n hx hb dX3_cougherScore_5 rfl (lv_at hl 1 rfl) ?_
    refine lv_iconst (v := (3 : Int32)) hx hb dX3_cougherScore_6 (by decide) ?_
    refine lv_icmp_ne (tgt := 14) hx hb dX3_cougherScore_7 (by decide) (fun c4 => ?_) (fun c4 => ?_)
    · have hf := im c4 hf
      refine lv_iload_n hx hb dX3_cougherScore_14 rfl (lv_at hl 0 rfl) ?_
      refine lv_iload_n hx hb dX3_cougherScore_15 rfl (lv_at hl 1 rfl) ?_
      obtain ⟨r6, hc5, hf⟩ := bd1_some hf
      refine cS (X := List.take 0 ([] : va_W)) (Y := List.drop 0 ([] : va_W)) (w := ([] : va_W)) (w' := ([] : va_W)) lk_X3_221 hx hb hml hown hE hA (c_X3_sitterScore l E p1 p2 r6 hc5) rfl rfl hP hD hS ⟨rfl, rfl, Nat.le_of_ble_eq_true rfl, Nat.le_of_ble_eq_true rfl⟩ hl.1 (As := [.int p1, .int p2]) (rest := []) rfl rfl (Nat.le_of_ble_eq_true rfl) ⟨Nat.zero_le _, Nat.zero_le _⟩ dX3_cougherScore_16 (fun H locs hP hD hS => ?_)
      refine W.eq (g2 := F0 m 19 ls [.int r6]) rfl ?_
      obtain rfl := so1 hf
      exact rt_i hx hb hr hlocks hP hD hS dX3_cougherScore_19
    · have hf := ip c4 hf
      refine lv_iconst (v := (5 : Int32)) hx hb dX3_cougherScore_10 (by decide) ?_
      refine lv_goto (tgt := 19) hx hb dX3_cougherScore_11 (by decide) ?_
      obtain rfl := so1 hf
      exact rt_i hx hb hr hlocks hP hD hS dX3_cougherScore_19
def f_X3_weeperScore (p1 : Int32) (p2 : Int32) : Option (Int32) := if p1 = (1 : Int32) then bd1 (f_X3_sitterScore p1 p2) (fun r5 => some ((r5 + (1 : Int32)))) else bd1 (f_X3_sitterScore p1 p2) (fun r3 => some (r3))
set_option maxHeartbeats 4000000 in
set_option maxRecDepth 100000 in
theorem c_X3_weeperScore (l : Launch) (E : EV)  (p1 : Int32) (p2 : Int32)  (r : Int32) (hf : f_X3_weeperScore p1 p2 = some r) : Ct l E yX3_weeperScore cX3_weeperScore 2 ((Option.some FieldType.int)) (rmk 1 21) [.int p1, .int p2] ([] : va_W) ([] : va_W) (some (.int r)) := by
  refine Ct.of (by decide) (Nat.le_of_ble_eq_true rfl) ?_
  intro p e s m below meth c A ls hC hP hD hl
  obtain ⟨hx, hb, hr, hml, hown, hlocks, hE, hA⟩ := hC
  have hts : ∀ w ∈ tbl, w.before [.int p1, .int p2].toArray s = true := fun w hw => hE.w hw
  have hS : va_S A s.heap s.heap [] := va_S.rf
  have hl : lv_has ls 2 [(0, .int p1), (1, .int p2)] := hl
  unfold f_X3_weeperScore at hf
  refine lv_iload_n hx hb dX3_weeperScore_0 rfl (lv_at hl 0 rfl) ?_
  refine lv_iconst (v := (1 : Int32)) hx hb dX3_weeperScore_1 (by decide) ?_
  refine lv_icmp_ne (tgt := 15) hx hb dX3_weeperScore_2 (by decide) (fun c1 => ?_) (fun c1 => ?_)
  · have hf := im c1 hf
    refine lv_iload_n hx hb dX3_weeperScore_15 rfl (lv_at hl 0 rfl) ?_
    refine lv_iload_n hx hb dX3_weeperScore_16 rfl (lv_at hl 1 rfl) ?_
    obtain ⟨r3, hc2, hf⟩ := bd1_some hf
    refine cS (X := List.take 0 ([] : va_W)) (Y := List.drop 0 ([] : va_W)) (w := ([] : va_W)) (w' := ([] : va_W)) lk_X3_221 hx hb hml hown hE hA (c_X3_sitterScore l E p1 p2 r3 hc2) rfl rfl hP hD hS ⟨rfl, rfl, Nat.le_of_ble_eq_true rfl, Nat.le_of_ble_eq_true rfl⟩ hl.1 (As := [.int p1, .int p2]) (rest := []) rfl rfl (Nat.le_of_ble_eq_true rfl) ⟨Nat.zero_le _, Nat.zero_le _⟩ dX3_weeperScore_17 (fun H locs hP hD hS => ?_)
    refine W.eq (g2 := F0 m 20 ls [.int r3]) rfl ?_
    obtain rfl := so1 hf
    exact rt_i hx hb hr hlocks hP hD hS dX3_weeperScore_20
  · have hf := ip c1 hf
    refine lv_iload_n hx hb dX3_weeperScore_5 rfl (lv_at hl 0 rfl) ?_
    refine lv_iload_n hx hb dX3_weeperScore_6 rfl (lv_at hl 1 rfl) ?_
    obtain ⟨r5, hc4, hf⟩ := bd1_some hf
    refine cS (X := List.take 0 ([] : va_W)) (Y := List.drop 0 ([] : va_W)) (w := ([] : va_W)) (w' := ([] : va_W)) lk_X3_221 hx hb hml hown hE hA (c_X3_sitterScore l E p1 p2 r5 hc4) rfl rfl hP hD hS ⟨rfl, rfl, Nat.le_of_ble_eq_true rfl, Nat.le_of_ble_eq_true rfl⟩ hl.1 (As := [.int p1, .int p2]) (rest := []) rfl rfl (Nat.le_of_ble_eq_true rfl) ⟨Nat.zero_le _, Nat.zero_le _⟩ dX3_weeperScore_7 (fun H locs hP hD hS => ?_)
    refine W.eq (g2 := F0 m 10 ls [.int r5]) rfl ?_
    refine lv_iconst (v := (1 : Int32)) hx hb dX3_weeperScore_10 (by decide) ?_
    refine lv_iadd hx hb dX3_weeperScore_11 ?_
    refine lv_goto (tgt := 20) hx hb dX3_weeperScore_12 (by decide) ?_
    obtain rfl := so1 hf
    exact rt_i hx hb hr hlocks hP hD hS dX3_weeperScore_20
def f_X3_scoreFor (p1 : Int32) (p2 : Int32) (p3 : Int32) : Option (Int32) := if p1 = (1 : Int32) then bd1 (f_X3_cougherScore p2 p3) (fun r3 => some (r3)) else if p1 = (2 : Int32) then bd1 (f_X3_weeperScore p2 p3) (fun r6 => some (r6)) else if p1 = (3 : Int32) then if p3 = 0 then some ((1 : Int32)) else some ((-3 : Int32)) else if p1 = (4 : Int32) then if p2 = (4 : Int32) then bd1 (f_X3_cougherScore p2 p3) (fun r14 => some ((r14 - (2 : Int32)))) else bd1 (f_X3_cougherScore p2 p3) (fun r12 => some (r12)) else if p1 = (5 : Int32) then bd1 (f_X3_weeperScore p2 p3) (fun r17 => some ((if (0 : Int32) < r17 then r17 else (0 : Int32)))) else bd1 (f_X3_sitterScore p2 p3) (fun r19 => some (r19))
set_option maxHeartbeats 4000000 in
set_option maxRecDepth 100000 in
theorem c_X3_scoreFor (l : Launch) (E : EV)  (p1 : Int32) (p2 : Int32) (p3 : Int32)  (r : Int32) (hf : f_X3_scoreFor p1 p2 p3 = some r) : Ct l E yX3_scoreFor cX3_scoreFor 3 ((Option.some FieldType.int)) (rmk 2 42) [.int p1, .int p2, .int p3] ([] : va_W) ([] : va_W) (some (.int r)) := by
  refine Ct.of (by decide) (Nat.le_of_ble_eq_true rfl) ?_
  intro p e s m below meth c A ls hC hP hD hl
  obtain ⟨hx, hb, hr, hml, hown, hlocks, hE, hA⟩ := hC
  have hts : ∀ w ∈ tbl, w.before [.int p1, .int p2, .int p3].toArray s = true := fun w hw => hE.w hw
  have hS : va_S A s.heap s.heap [] := va_S.rf
  have hl : lv_has ls 3 [(0, .int p1), (1, .int p2), (2, .int p3)] := hl
  unfold f_X3_scoreFor at hf
  refine lv_iload_n hx hb dX3_scoreFor_0 rfl (lv_at hl 0 rfl) ?_
  by_cases c1 : p1 = (1 : Int32)
  · have hf := ip c1 hf
    refine lv_tableIn (off := 35) (tgt := 36) hx hb dX3_scoreFor_1 (by rw [c1]; decide) (by rw [c1]; decide) (by rw [c1]; rfl) (by decide) ?_
    refine lv_iload_n hx hb dX3_scoreFor_36 rfl (lv_at hl 1 rfl) ?_
    refine lv_iload_n hx hb dX3_scoreFor_37 rfl (lv_at hl 2 rfl) ?_
    obtain ⟨r3, hc2, hf⟩ := bd1_some hf
    refine cS (X := List.take 0 ([] : va_W)) (Y := List.drop 0 ([] : va_W)) (w := ([] : va_W)) (w' := ([] : va_W)) lk_X3_215 hx hb hml hown hE hA (c_X3_cougherScore l E p2 p3 r3 hc2) rfl rfl hP hD hS ⟨rfl, rfl, Nat.le_of_ble_eq_true rfl, Nat.le_of_ble_eq_true rfl⟩ hl.1 (As := [.int p2, .int p3]) (rest := []) rfl rfl (Nat.le_of_ble_eq_true rfl) ⟨Nat.zero_le _, Nat.zero_le _⟩ dX3_scoreFor_38 (fun H locs hP hD hS => ?_)
    refine W.eq (g2 := F0 m 41 ls [.int r3]) rfl ?_
    obtain rfl := so1 hf
    exact rt_i hx hb hr hlocks hP hD hS dX3_scoreFor_41
  have hf := im c1 hf
  by_cases c4 : p1 = (2 : Int32)
  · have hf := ip c4 hf
    refine lv_tableIn (off := 41) (tgt := 42) hx hb dX3_scoreFor_1 (by rw [c4]; decide) (by rw [c4]; decide) (by rw [c4]; rfl) (by decide) ?_
    refine lv_iload_n hx hb dX3_scoreFor_42 rfl (lv_at hl 1 rfl) ?_
    refine lv_iload_n hx hb dX3_scoreFor_43 rfl (lv_at hl 2 rfl) ?_
    obtain ⟨r6, hc5, hf⟩ := bd1_some hf
    refine cS (X := List.take 0 ([] : va_W)) (Y := List.drop 0 ([] : va_W)) (w := ([] : va_W)) (w' := ([] : va_W)) lk_X3_218 hx hb hml hown hE hA (c_X3_weeperScore l E p2 p3 r6 hc5) rfl rfl hP hD hS ⟨rfl, rfl, Nat.le_of_ble_eq_true rfl, Nat.le_of_ble_eq_true rfl⟩ hl.1 (As := [.int p2, .int p3]) (rest := []) rfl rfl (Nat.le_of_ble_eq_true rfl) ⟨Nat.zero_le _, Nat.zero_le _⟩ dX3_scoreFor_44 (fun H locs hP hD hS => ?_)
    refine W.eq (g2 := F0 m 47 ls [.int r6]) rfl ?_
    obtain rfl := so1 hf
    exact rt_i hx hb hr hlocks hP hD hS dX3_scoreFor_47
  have hf := im c4 hf
  by_cases c7 : p1 = (3 : Int32)
  · have hf := ip c7 hf
    refine lv_tableIn (off := 47) (tgt := 48) hx hb dX3_scoreFor_1 (by rw [c7]; decide) (by rw [c7]; decide) (by rw [c7]; rfl) (by decide) ?_
    refine lv_iload_n hx hb dX3_scoreFor_48 rfl (lv_at hl 2 rfl) ?_
    refine lv_if_ne (tgt := 56) hx hb dX3_scoreFor_49 (by decide) (fun c8 => ?_) (fun c8 => ?_)
    · have hf := im c8 hf
      refine lv_bipush (v := (-3 : Int32)) hx hb dX3_scoreFor_56 (by decide) ?_
      obtain rfl := so1 hf
      exact rt_i hx hb hr hlocks hP hD hS dX3_scoreFor_58
    · have hf := ip c8 hf
      refine lv_iconst (v := (1 : Int32)) hx hb dX3_scoreFor_52 (by decide) ?_
      refine lv_goto (tgt := 58) hx hb dX3_scoreFor_53 (by decide) ?_
      obtain rfl := so1 hf
      exact rt_i hx hb hr hlocks hP hD hS dX3_scoreFor_58
  have hf := im c7 hf
  by_cases c9 : p1 = (4 : Int32)
  · have hf := ip c9 hf
    refine lv_tableIn (off := 58) (tgt := 59) hx hb dX3_scoreFor_1 (by rw [c9]; decide) (by rw [c9]; decide) (by rw [c9]; rfl) (by decide) ?_
    refine lv_iload_n hx hb dX3_scoreFor_59 rfl (lv_at hl 1 rfl) ?_
    refine lv_iconst (v := (4 : Int32)) hx hb dX3_scoreFor_60 (by decide) ?_
    refine lv_icmp_ne (tgt := 74) hx hb dX3_scoreFor_61 (by decide) (fun c10 => ?_) (fun c10 => ?_)
    · have hf := im c10 hf
      refine lv_iload_n hx hb dX3_scoreFor_74 rfl (lv_at hl 1 rfl) ?_
      refine lv_iload_n hx hb dX3_scoreFor_75 rfl (lv_at hl 2 rfl) ?_
      obtain ⟨r12, hc11, hf⟩ := bd1_some hf
      refine cS (X := List.take 0 ([] : va_W)) (Y := List.drop 0 ([] : va_W)) (w := ([] : va_W)) (w' := ([] : va_W)) lk_X3_215 hx hb hml hown hE hA (c_X3_cougherScore l E p2 p3 r12 hc11) rfl rfl hP hD hS ⟨rfl, rfl, Nat.le_of_ble_eq_true rfl, Nat.le_of_ble_eq_true rfl⟩ hl.1 (As := [.int p2, .int p3]) (rest := []) rfl rfl (Nat.le_of_ble_eq_true rfl) ⟨Nat.zero_le _, Nat.zero_le _⟩ dX3_scoreFor_76 (fun H locs hP hD hS => ?_)
      refine W.eq (g2 := F0 m 79 ls [.int r12]) rfl ?_
      obtain rfl := so1 hf
      exact rt_i hx hb hr hlocks hP hD hS dX3_scoreFor_79
    · have hf := ip c10 hf
      refine lv_iload_n hx hb dX3_scoreFor_64 rfl (lv_at hl 1 rfl) ?_
      refine lv_iload_n hx hb dX3_scoreFor_65 rfl (lv_at hl 2 rfl) ?_
      obtain ⟨r14, hc13, hf⟩ := bd1_some hf
      refine cS (X := List.take 0 ([] : va_W)) (Y := List.drop 0 ([] : va_W)) (w := ([] : va_W)) (w' := ([] : va_W)) lk_X3_215 hx hb hml hown hE hA (c_X3_cougherScore l E p2 p3 r14 hc13) rfl rfl hP hD hS ⟨rfl, rfl, Nat.le_of_ble_eq_true rfl, Nat.le_of_ble_eq_true rfl⟩ hl.1 (As := [.int p2, .int p3]) (rest := []) rfl rfl (Nat.le_of_ble_eq_true rfl) ⟨Nat.zero_le _, Nat.zero_le _⟩ dX3_scoreFor_66 (fun H locs hP hD hS => ?_)
      refine W.eq (g2 := F0 m 69 ls [.int r14]) rfl ?_
      refine lv_iconst (v := (2 : Int32)) hx hb dX3_scoreFor_69 (by decide) ?_
      refine lv_isub hx hb dX3_scoreFor_70 ?_
      refine lv_goto (tgt := 79) hx hb dX3_scoreFor_71 (by decide) ?_
      obtain rfl := so1 hf
      exact rt_i hx hb hr hlocks hP hD hS dX3_scoreFor_79
  have hf := im c9 hf
  by_cases c15 : p1 = (5 : Int32)
  · have hf := ip c15 hf
    refine lv_tableIn (off := 79) (tgt := 80) hx hb dX3_scoreFor_1 (by rw [c15]; decide) (by rw [c15]; decide) (by rw [c15]; rfl) (by decide) ?_
    refine lv_iconst (v := (0 : Int32)) hx hb dX3_scoreFor_80 (by decide) ?_
    refine lv_iload_n hx hb dX3_scoreFor_81 rfl (lv_at hl 1 rfl) ?_
    refine lv_iload_n hx hb dX3_scoreFor_82 rfl (lv_at hl 2 rfl) ?_
    obtain ⟨r17, hc16, hf⟩ := bd1_some hf
    refine cS (X := List.take 0 ([] : va_W)) (Y := List.drop 0 ([] : va_W)) (w := ([] : va_W)) (w' := ([] : va_W)) lk_X3_218 hx hb hml hown hE hA (c_X3_weeperScore l E p2 p3 r17 hc16) rfl rfl hP hD hS ⟨rfl, rfl, Nat.le_of_ble_eq_true rfl, Nat.le_of_ble_eq_true rfl⟩ hl.1 (As := [.int p2, .int p3]) (rest := [.int (0 : Int32)]) rfl rfl (Nat.le_of_ble_eq_true rfl) ⟨Nat.zero_le _, Nat.zero_le _⟩ dX3_scoreFor_83 (fun H locs hP hD hS => ?_)
    refine W.eq (g2 := F0 m 86 ls [.int r17, .int (0 : Int32)]) rfl ?_
    refine va_mmax hx hb (hml.trans hl.1.symm) hown (hE.w tw_229) (hE.w tw_230) (hE.w tw_6) (hE.w tw_231) (Nat.le_of_ble_eq_true rfl) (Nat.le_of_ble_eq_true rfl) (Nat.zero_le _) (Nat.zero_le _) dX3_scoreFor_86 ?_
    obtain rfl := so1 hf
    exact rt_i hx hb hr hlocks hP hD hS dX3_scoreFor_89
  have hf := im c15 hf
  refine lv_tableOut (tgt := 90) hx hb dX3_scoreFor_1 (by have zc1 := lv_neT c1 (a := 1) (by decide); have zc4 := lv_neT c4 (a := 2) (by decide); have zc7 := lv_neT c7 (a := 3) (by decide); have zc9 := lv_neT c9 (a := 4) (by decide); have zc15 := lv_neT c15 (a := 5) (by decide); omega) (by decide) ?_
  refine lv_iload_n hx hb dX3_scoreFor_90 rfl (lv_at hl 1 rfl) ?_
  refine lv_iload_n hx hb dX3_scoreFor_91 rfl (lv_at hl 2 rfl) ?_
  obtain ⟨r19, hc18, hf⟩ := bd1_some hf
  refine cS (X := List.take 0 ([] : va_W)) (Y := List.drop 0 ([] : va_W)) (w := ([] : va_W)) (w' := ([] : va_W)) lk_X3_221 hx hb hml hown hE hA (c_X3_sitterScore l E p2 p3 r19 hc18) rfl rfl hP hD hS ⟨rfl, rfl, Nat.le_of_ble_eq_true rfl, Nat.le_of_ble_eq_true rfl⟩ hl.1 (As := [.int p2, .int p3]) (rest := []) rfl rfl (Nat.le_of_ble_eq_true rfl) ⟨Nat.zero_le _, Nat.zero_le _⟩ dX3_scoreFor_92 (fun H locs hP hD hS => ?_)
  refine W.eq (g2 := F0 m 95 ls [.int r19]) rfl ?_
  obtain rfl := so1 hf
  exact rt_i hx hb hr hlocks hP hD hS dX3_scoreFor_95
def f_X3_staleness (p1 : Int32) : Option (Int32) := if p1 = (1 : Int32) then some ((3 : Int32)) else if p1 = (2 : Int32) then some ((8 : Int32)) else if p1 = (3 : Int32) then some ((-5 : Int32)) else if p1 = (4 : Int32) then some ((0 : Int32)) else if p1 = (5 : Int32) then some ((5 : Int32)) else some ((4 : Int32))
set_option maxHeartbeats 4000000 in
set_option maxRecDepth 100000 in
theorem c_X3_staleness (l : Launch) (E : EV)  (p1 : Int32)  (r : Int32) (hf : f_X3_staleness p1 = some r) : Ct l E yX3_staleness cX3_staleness 1 ((Option.some FieldType.int)) (rmk 0 0) [.int p1] ([] : va_W) ([] : va_W) (some (.int r)) := by
  refine Ct.of (by decide) (Nat.le_of_ble_eq_true rfl) ?_
  intro p e s m below meth c A ls hC hP hD hl
  obtain ⟨hx, hb, hr, hml, hown, hlocks, hE, hA⟩ := hC
  have hts : ∀ w ∈ tbl, w.before [.int p1].toArray s = true := fun w hw => hE.w hw
  have hS : va_S A s.heap s.heap [] := va_S.rf
  have hl : lv_has ls 1 [(0, .int p1)] := hl
  unfold f_X3_staleness at hf
  refine lv_iload_n hx hb dX3_staleness_0 rfl (lv_at hl 0 rfl) ?_
  by_cases c1 : p1 = (1 : Int32)
  · have hf := ip c1 hf
    refine lv_tableIn (off := 35) (tgt := 36) hx hb dX3_staleness_1 (by rw [c1]; decide) (by rw [c1]; decide) (by rw [c1]; rfl) (by decide) ?_
    refine lv_iconst (v := (3 : Int32)) hx hb dX3_staleness_36 (by decide) ?_
    obtain rfl := so1 hf
    exact rt_i hx hb hr hlocks hP hD hS dX3_staleness_37
  have hf := im c1 hf
  by_cases c2 : p1 = (2 : Int32)
  · have hf := ip c2 hf
    refine lv_tableIn (off := 37) (tgt := 38) hx hb dX3_staleness_1 (by rw [c2]; decide) (by rw [c2]; decide) (by rw [c2]; rfl) (by decide) ?_
    refine lv_bipush (v := (8 : Int32)) hx hb dX3_staleness_38 (by decide) ?_
    obtain rfl := so1 hf
    exact rt_i hx hb hr hlocks hP hD hS dX3_staleness_40
  have hf := im c2 hf
  by_cases c3 : p1 = (3 : Int32)
  · have hf := ip c3 hf
    refine lv_tableIn (off := 40) (tgt := 41) hx hb dX3_staleness_1 (by rw [c3]; decide) (by rw [c3]; decide) (by rw [c3]; rfl) (by decide) ?_
    refine lv_bipush (v := (-5 : Int32)) hx hb dX3_staleness_41 (by decide) ?_
    obtain rfl := so1 hf
    exact rt_i hx hb hr hlocks hP hD hS dX3_staleness_43
  have hf := im c3 hf
  by_cases c4 : p1 = (4 : Int32)
  · have hf := ip c4 hf
    refine lv_tableIn (off := 43) (tgt := 44) hx hb dX3_staleness_1 (by rw [c4]; decide) (by rw [c4]; decide) (by rw [c4]; rfl) (by decide) ?_
    refine lv_iconst (v := (0 : Int32)) hx hb dX3_staleness_44 (by decide) ?_
    obtain rfl := so1 hf
    exact rt_i hx hb hr hlocks hP hD hS dX3_staleness_45
  have hf := im c4 hf
  by_cases c5 : p1 = (5 : Int32)
  · have hf := ip c5 hf
    refine lv_tableIn (off := 45) (tgt := 46) hx hb dX3_staleness_1 (by rw [c5]; decide) (by rw [c5]; decide) (by rw [c5]; rfl) (by decide) ?_
    refine lv_iconst (v := (5 : Int32)) hx hb dX3_staleness_46 (by decide) ?_
    obtain rfl := so1 hf
    exact rt_i hx hb hr hlocks hP hD hS dX3_staleness_47
  have hf := im c5 hf
  refine lv_tableOut (tgt := 48) hx hb dX3_staleness_1 (by have zc1 := lv_neT c1 (a := 1) (by decide); have zc2 := lv_neT c2 (a := 2) (by decide); have zc3 := lv_neT c3 (a := 3) (by decide); have zc4 := lv_neT c4 (a := 4) (by decide); have zc5 := lv_neT c5 (a := 5) (by decide); omega) (by decide) ?_
  refine lv_iconst (v := (4 : Int32)) hx hb dX3_staleness_48 (by decide) ?_
  obtain rfl := so1 hf
  exact rt_i hx hb hr hlocks hP hD hS dX3_staleness_49
def lp_X3_isUnder_4 (p2 : Int32) : Nat → (Int32) → (Int32) → Option (Bool)
  | 0, _, _ => none
  | k_1 + 1, v3_1, v2_1 => if (6 : Int32) ≤ v3_1 then some (false) else if v2_1 < 0 then some (false) else if (6 : Int32) ≤ v2_1 then some (false) else if v2_1 = p2 then some (true) else gd v2_1 6 (lp_X3_isUnder_4 p2 k_1 (v3_1 + (1 : Int32)) (ka_f v2_1.toNatClampNeg))
def f_X3_isUnder (p1 : Int32) (p2 : Int32) : Option (Bool) := lp_X3_isUnder_4 p2 FU (0 : Int32) p1
set_option maxHeartbeats 4000000 in
set_option maxRecDepth 100000 in
theorem c_X3_isUnder (l : Launch) (E : EV)  (p1 : Int32) (p2 : Int32)  (r : Bool) (hf : f_X3_isUnder p1 p2 = some r) : Ct l E yX3_isUnder cX3_isUnder 4 ((Option.some FieldType.boolean)) (rmk 0 0) [.int p1, .int p2] ([] : va_W) ([] : va_W) (some (.int (bI r))) := by
  refine Ct.of (by decide) (Nat.le_of_ble_eq_true rfl) ?_
  intro p e s m below meth c A ls hC hP hD hl
  obtain ⟨hx, hb, hr, hml, hown, hlocks, hE, hA⟩ := hC
  have hts : ∀ w ∈ tbl, w.before [.int p1, .int p2].toArray s = true := fun w hw => hE.w hw
  have hS : va_S A s.heap s.heap [] := va_S.rf
  have hl : lv_has ls 4 [(0, .int p1), (1, .int p2)] := hl
  unfold f_X3_isUnder at hf
  refine lv_iload_n hx hb dX3_isUnder_0 rfl (lv_at hl 0 rfl) ?_
  refine lv_istore_n (lv' := [(2, .int p1), (0, .int p1), (1, .int p2)]) hx hb dX3_isUnder_1 rfl hl (by decide) rfl (fun ls hl => ?_)
  refine lv_iconst (v := (0 : Int32)) hx hb dX3_isUnder_2 (by decide) ?_
  refine lv_istore_n (lv' := [(3, .int (0 : Int32)), (2, .int p1), (0, .int p1), (1, .int p2)]) hx hb dX3_isUnder_3 rfl hl (by decide) rfl (fun ls hl => ?_)
  have L_1 : ∀ (k_1 : Nat) (v3_1 : Int32) (v2_1 : Int32), lp_X3_isUnder_4 p2 k_1 v3_1 v2_1 = some r → ∀ (H : Heap) (locs : List Loc) (ls : Array Slot), va_P E.1 vwCl ([] : va_W) H → va_D A ([] : va_W) → va_S A s.heap H locs → lv_has ls 4 [(3, .int v3_1), (2, .int v2_1), (0, .int p1), (1, .int p2)] → W p l e (rmk 0 0) s m [.int p1, .int p2].toArray below meth c H locs 0 0 (MQ below (Qct E A ([] : va_W) (some (.int (bI r)))) [.int p1, .int p2].toArray s 0 0 A) (F0 m 4 ls []) := by
    intro k_1
    induction k_1 with
    | zero =>
      intro v3_1 v2_1 hf
      rw [lp_X3_isUnder_4] at hf
      cases hf
    | succ k_1 ih_1 =>
      intro v3_1 v2_1 hf H locs ls hP hD hS hl
      rw [lp_X3_isUnder_4] at hf
      refine lv_iload_n hx hb dX3_isUnder_4 rfl (lv_at hl 0 rfl) ?_
      refine lv_bipush (v := (6 : Int32)) hx hb dX3_isUnder_5 (by decide) ?_
      refine lv_icmp_ge (tgt := 39) hx hb dX3_isUnder_7 (by decide) (fun c2 => ?_) (fun c2 => ?_)
      · have hf := ip c2 hf
        refine lv_iconst (v := (0 : Int32)) hx hb dX3_isUnder_39 (by decide) ?_
        obtain rfl := so1 hf
        exact rt_z (bI_nar _) hx hb hr hlocks hP hD hS dX3_isUnder_40
      · have hf := im c2 hf
        refine lv_iload_n hx hb dX3_isUnder_10 rfl (lv_at hl 1 rfl) ?_
        refine lv_if_lt (tgt := 39) hx hb dX3_isUnder_11 (by decide) (fun c3 => ?_) (fun c3 => ?_)
        · have hf := ip c3 hf
          refine lv_iconst (v := (0 : Int32)) hx hb dX3_isUnder_39 (by decide) ?_
          obtain rfl := so1 hf
          exact rt_z (bI_nar _) hx hb hr hlocks hP hD hS dX3_isUnder_40
        · have hf := im c3 hf
          refine lv_iload_n hx hb dX3_isUnder_14 rfl (lv_at hl 1 rfl) ?_
          refine lv_bipush (v := (6 : Int32)) hx hb dX3_isUnder_15 (by decide) ?_
          refine lv_icmp_ge (tgt := 39) hx hb dX3_isUnder_17 (by decide) (fun c4 => ?_) (fun c4 => ?_)
          · have hf := ip c4 hf
            refine lv_iconst (v := (0 : Int32)) hx hb dX3_isUnder_39 (by decide) ?_
            obtain rfl := so1 hf
            exact rt_z (bI_nar _) hx hb hr hlocks hP hD hS dX3_isUnder_40
          · have hf := im c4 hf
            refine lv_iload_n hx hb dX3_isUnder_20 rfl (lv_at hl 1 rfl) ?_
            refine lv_iload_n hx hb dX3_isUnder_21 rfl (lv_at hl 3 rfl) ?_
            refine lv_icmp_ne (tgt := 27) hx hb dX3_isUnder_22 (by decide) (fun c5 => ?_) (fun c5 => ?_)
            · have hf := im c5 hf
              refine va_gets hx hb hE.2.2.1 hS hown (hE.w tw_247) (fun _ h9 => h9) dX3_isUnder_27 ?_
              refine lv_iload_n hx hb dX3_isUnder_30 rfl (lv_at hl 1 rfl) ?_
              obtain ⟨hg6, hf⟩ := gd_some hf
              refine va_ti (v := .int (ka_f v2_1.toNatClampNeg)) hx hb hE.2.2.2.1 hS hg6 rfl dX3_isUnder_31 ?_
              refine lv_istore_n (lv' := [(2, .int (ka_f v2_1.toNatClampNeg)), (3, .int v3_1), (0, .int p1), (1, .int p2)]) hx hb dX3_isUnder_32 rfl hl (by decide) rfl (fun ls hl => ?_)
              refine lv_iinc (v := (v3_1 + (1 : Int32))) (lv' := [(3, .int (v3_1 + (1 : Int32))), (2, .int (ka_f v2_1.toNatClampNeg)), (0, .int p1), (1, .int p2)]) hx hb dX3_isUnder_33 hl (k := 1) rfl rfl (by decide) rfl (fun ls hl => ?_)
              refine lv_goto (tgt := 4) hx hb dX3_isUnder_36 (by decide) ?_
              exact ih_1 _ _ hf _ _ _ hP hD hS (lv_sub hl [0, 1, 2, 3] rfl)
            · have hf := ip c5 hf
              refine lv_iconst (v := (1 : Int32)) hx hb dX3_isUnder_25 (by decide) ?_
              obtain rfl := so1 hf
              exact rt_z (bI_nar _) hx hb hr hlocks hP hD hS dX3_isUnder_26
  exact L_1 _ _ _ hf _ _ _ hP hD hS (lv_sub hl [0, 1, 2, 3] rfl)
def f_X3_isSheet (p1 : Int32) : Option (Bool) := bd1 (f_X3_isIn p1 (0 : Int32) (3 : Int32)) (fun r2 => some (r2))
set_option maxHeartbeats 4000000 in
set_option maxRecDepth 100000 in
theorem c_X3_isSheet (l : Launch) (E : EV)  (p1 : Int32)  (r : Bool) (hf : f_X3_isSheet p1 = some r) : Ct l E yX3_isSheet cX3_isSheet 1 ((Option.some FieldType.boolean)) (rmk 1 22) [.int p1] ([] : va_W) ([] : va_W) (some (.int (bI r))) := by
  refine Ct.of (by decide) (Nat.le_of_ble_eq_true rfl) ?_
  intro p e s m below meth c A ls hC hP hD hl
  obtain ⟨hx, hb, hr, hml, hown, hlocks, hE, hA⟩ := hC
  have hts : ∀ w ∈ tbl, w.before [.int p1].toArray s = true := fun w hw => hE.w hw
  have hS : va_S A s.heap s.heap [] := va_S.rf
  have hl : lv_has ls 1 [(0, .int p1)] := hl
  unfold f_X3_isSheet at hf
  refine lv_iload_n hx hb dX3_isSheet_0 rfl (lv_at hl 0 rfl) ?_
  refine lv_iconst (v := (0 : Int32)) hx hb dX3_isSheet_1 (by decide) ?_
  refine lv_iconst (v := (3 : Int32)) hx hb dX3_isSheet_2 (by decide) ?_
  obtain ⟨r2, hc1, hf⟩ := bd1_some hf
  refine cS (X := List.take 0 ([] : va_W)) (Y := List.drop 0 ([] : va_W)) (w := ([] : va_W)) (w' := ([] : va_W)) lk_X3_44 hx hb hml hown hE hA (c_X3_isIn l E p1 (0 : Int32) (3 : Int32) r2 hc1) rfl rfl hP hD hS ⟨rfl, rfl, Nat.le_of_ble_eq_true rfl, Nat.le_of_ble_eq_true rfl⟩ hl.1 (As := [.int p1, .int (0 : Int32), .int (3 : Int32)]) (rest := []) rfl rfl (Nat.le_of_ble_eq_true rfl) ⟨Nat.zero_le _, Nat.zero_le _⟩ dX3_isSheet_3 (fun H locs hP hD hS => ?_)
  refine W.eq (g2 := F0 m 6 ls [.int (bI r2)]) rfl ?_
  obtain rfl := so1 hf
  exact rt_z (bI_nar _) hx hb hr hlocks hP hD hS dX3_isSheet_6
