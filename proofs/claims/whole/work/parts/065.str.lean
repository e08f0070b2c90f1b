/-! STRINGS: length() and charAt(k) of the literals, over the JDK's own code -/
def st_ch (i : Nat) (j : Int32) : Int32 := (((st_byt.getD i []).getD j.toNatClampNeg 0 &&& 255).toUInt32 % 65536).toInt32
theorem st_small : ∀ i, i < 15 → st_len.getD i 0 < 2 ^ 31 := by decide +kernel
section STR
variable {p : Program} {l : Launch} {e : Env} {R : Room} {s : State} {m : MethodId} {args : Array Value} {below : List Frame} {meth : Method} {c : Code} {H : Heap} {locs : List Loc} {cells slots : Nat} {Q : State → Prop}
variable {pc : Nat} {ls : Array Slot} {rest As st0 : List Value} {E : EV} {A : Nat → Prop} {w : va_W} {ov : Option Value}
variable {own : String} {index maxL nL n i : Nat} {y : MethodName} {bytes cc : ByteArray} {ret : Option FieldType} {rm : Room}
theorem cVs (lk : LinkV own index "java/lang/String" y bytes maxL ret n) (hx : p.tables.exec = Jvm.exec) (hb : c.code = cc) (hml : c.maxLocals = nL) (hown : s.vm.findClass own = some m.cls) (hE : Ev E A s) (hA : ∀ q : Nat, s.heap.size ≤ q → A q) (hC : Ct l E y bytes maxL ret rm (.ref (E.2.2.2.1 i) :: As) [] [] ov) (hi : i < 15)
    (hP : va_P E.1 vwCl w H) (hD : va_D A w) (hS : va_S A s.heap H locs) (hR : rm.cells = 0 ∧ rm.slots = 0 ∧ rm.frames + 1 ≤ R.frames ∧ 8 + (maxL + 11) + rm.locals ≤ R.locals) (hl : ls.size = nL) (hst : st0 = As.reverse ++ .ref (E.2.2.2.1 i) :: rest) (hn : As.length = n) (hW : (rest.map fun v => v.category).sum ≤ 8) (hf : cells + 0 ≤ R.cells ∧ slots + 0 ≤ R.slots) (hdg : decode cc pc = .ok (.invokevirtual index, 3))
    (kk : ∀ (H1 : Heap) (locs1 : List Loc), va_P E.1 vwCl w H1 → va_D A w → va_S A s.heap H1 locs1 → W p l e R s m args below meth c H1 locs1 cells slots Q (F0 m (pc + 3) ls (ov.toList ++ rest))) : W p l e R s m args below meth c H locs cells slots Q (F0 m pc ls st0) := by
  obtain ⟨k1, k2, k3, k4, k5, k6, k7⟩ := lk
  have hw : w = [] ++ ([] ++ w) := rfl
  have hpre := ct_pre (av := .ref (E.2.2.2.1 i) :: As) hw hE hP hD hS hA
  exact ct_go hw hw (va_runV (As := As) (rest := rest) ⟨hx, hb, hml, hown, fun w hw => hE.w hw⟩ (hC H.size) (⟨⟨hR.1, hR.2.1, hR.2.2.1, hR.2.2.2, cd_all hE k5, List.mem_singleton.mpr rfl, hE.w k5, hE.w k4, k6, ln_of k7, hE.w k1⟩, hE.w k2, hE.w k3⟩) ⟨Pct.blind, vk_recv hE.2.2.2.2.2.2.1 hi hS, hpre⟩ rfl hn hl hst (lv_room hW) hdg hf) hP hD hS hA kk
end STR
set_option maxHeartbeats 4000000 in
theorem c_J0_coder (l : Launch) (E : EV) (i : Nat) (hi : i < 15) : Ct l E yJ0_coder_7d493 cJ0_coder_7d493 1 (some .byte) (rmk 0 0) [.ref (E.2.2.2.1 i)] [] [] (some (.int 0)) := by
  refine Ct.of (by decide) (Nat.le_of_ble_eq_true rfl) ?_
  intro p e s m below meth c A ls hC hP hD hl
  obtain ⟨hx, hb, hr, hml, hown, hlocks, hE, hA⟩ := hC
  have hS : va_S A s.heap s.heap [] := va_S.rf
  have hl : lv_has ls 1 [(0, .ref (E.2.2.2.1 i))] := hl
  refine va_gets hx hb hE.2.2.2.2.1 hS hown (hE.w tw_423) (fun _ h9 => h9) dJ0_coder_7d493_0 ?_
  refine lv_if_eq (tgt := 13) hx hb dJ0_coder_7d493_3 (by decide) (fun c => absurd c (by decide)) (fun _ => ?_)
  refine lv_aload_n hx hb dJ0_coder_7d493_6 rfl (lv_at hl 0 rfl) ?_
  refine vk_getf hx hb (hE.2.2.2.2.2.2.1.1 i hi).2.1 hS hown (hE.w tw_1002) (fun _ h9 => h9) dJ0_coder_7d493_7 ?_
  refine lv_goto (tgt := 14) hx hb dJ0_coder_7d493_10 (by decide) ?_
  exact rt_z (by decide) hx hb hr hlocks hP hD hS dJ0_coder_7d493_14
set_option maxHeartbeats 4000000 in
theorem c_J0_isLatin1 (l : Launch) (E : EV) (i : Nat) (hi : i < 15) : Ct l E yJ0_isLatin1_aae02 cJ0_isLatin1_aae02 1 (some .boolean) (rmk 0 0) [.ref (E.2.2.2.1 i)] [] [] (some (.int 1)) := by
  refine Ct.of (by decide) (Nat.le_of_ble_eq_true rfl) ?_
  intro p e s m below meth c A ls hC hP hD hl
  obtain ⟨hx, hb, hr, hml, hown, hlocks, hE, hA⟩ := hC
  have hS : va_S A s.heap s.heap [] := va_S.rf
  have hl : lv_has ls 1 [(0, .ref (E.2.2.2.1 i))] := hl
  refine va_gets hx hb hE.2.2.2.2.1 hS hown (hE.w tw_423) (fun _ h9 => h9) dJ0_isLatin1_aae02_0 ?_
  refine lv_if_eq (tgt := 17) hx hb dJ0_isLatin1_aae02_3 (by decide) (fun c => absurd c (by decide)) (fun _ => ?_)
  refine lv_aload_n hx hb dJ0_isLatin1_aae02_6 rfl (lv_at hl 0 rfl) ?_
  refine vk_getf hx hb (hE.2.2.2.2.2.2.1.1 i hi).2.1 hS hown (hE.w tw_1002) (fun _ h9 => h9) dJ0_isLatin1_aae02_7 ?_
  refine lv_if_ne (tgt := 17) hx hb dJ0_isLatin1_aae02_10 (by decide) (fun c => absurd rfl c) (fun _ => ?_)
  refine lv_iconst (v := 1) hx hb dJ0_isLatin1_aae02_13 (by decide) ?_
  refine lv_goto (tgt := 18) hx hb dJ0_isLatin1_aae02_14 (by decide) ?_
  exact rt_z (by decide) hx hb hr hlocks hP hD hS dJ0_isLatin1_aae02_18
set_option maxHeartbeats 4000000 in
theorem c_len (l : Launch) (E : EV) (i : Nat) (hi : i < 15) : Ct l E yJ0_length_8abf5 cJ0_length_8abf5 1 (some .int) (rmk 1 20) [.ref (E.2.2.2.1 i)] [] [] (some (.int (nI (st_len.getD i 0)))) := by
  refine Ct.of (by decide) (Nat.le_of_ble_eq_true rfl) ?_
  intro p e s m below meth c A ls hC hP hD hl
  obtain ⟨hx, hb, hr, hml, hown, hlocks, hE, hA⟩ := hC
  have hS : va_S A s.heap s.heap [] := va_S.rf
  have hl : lv_has ls 1 [(0, .ref (E.2.2.2.1 i))] := hl
  refine lv_aload_n hx hb dJ0_length_8abf5_0 rfl (lv_at hl 0 rfl) ?_
  refine vk_getf hx hb (hE.2.2.2.2.2.2.1.1 i hi).2.2.1 hS hown (hE.w tw_1001) (fun _ h9 => h9) dJ0_length_8abf5_1 ?_
  refine va_tlen (v := nI (st_len.getD i 0)) hx hb (hE.2.2.2.2.2.2.1.1 i hi).2.2.2 hS rfl dJ0_length_8abf5_4 ?_
  refine lv_aload_n hx hb dJ0_length_8abf5_5 rfl (lv_at hl 0 rfl) ?_
  refine cVs lk_J0_335 hx hb hml hown hE hA (c_J0_coder l E i hi) hi hP hD hS ⟨rfl, rfl, Nat.le_of_ble_eq_true rfl, Nat.le_of_ble_eq_true rfl⟩ hl.1 (As := []) (rest := [.int (nI (st_len.getD i 0))]) rfl rfl (Nat.le_of_ble_eq_true rfl) ⟨Nat.zero_le _, Nat.zero_le _⟩ dJ0_length_8abf5_6 (fun H locs hP hD hS => ?_)
  refine W.eq (g2 := F0 m 9 ls [.int 0, .int (nI (st_len.getD i 0))]) rfl ?_
  refine lv_ishr hx hb dJ0_length_8abf5_9 ?_
  have e0 : nI (st_len.getD i 0) >>> ((0 : Int32) &&& 31) = nI (st_len.getD i 0) := sc_shr0 (st_small i hi)
  rw [e0]
  exact rt_i hx hb hr hlocks hP hD hS dJ0_length_8abf5_10
set_option maxHeartbeats 4000000 in
theorem c_J3_check (l : Launch) (E : EV) (j n : Int32) (v : Value) (hv : v = .null ∨ ∃ t, v = .ref t) (h0 : ¬ j < 0) (h1 : j < n) : Ct l E yJ3_checkIndex_8e157 cJ3_checkIndex_8e157 3 (some .int) (rmk 0 0) [.int j, .int n, v] [] [] (some (.int j)) := by
  have hlen : (lg_sl [.int j, .int n, v]).length ≤ 3 := by rcases hv with rfl | ⟨t, rfl⟩ <;> exact Nat.le_of_ble_eq_true rfl
  refine Ct.of (by decide) hlen ?_
  intro p e s m below meth c A ls hC hP hD hl
  obtain ⟨hx, hb, hr, hml, hown, hlocks, hE, hA⟩ := hC
  have hS : va_S A s.heap s.heap [] := va_S.rf
  have hl : lv_has ls 3 [(0, .int j), (1, .int n), (2, v)] := hl
  refine lv_iload_n hx hb dJ3_checkIndex_8e157_0 rfl (lv_at hl 0 rfl) ?_
  refine lv_if_lt (tgt := 9) hx hb dJ3_checkIndex_8e157_1 (by decide) (fun c => absurd c h0) (fun _ => ?_)
  refine lv_iload_n hx hb dJ3_checkIndex_8e157_4 rfl (lv_at hl 0 rfl) ?_
  refine lv_iload_n hx hb dJ3_checkIndex_8e157_5 rfl (lv_at hl 1 rfl) ?_
  refine lv_icmp_lt (tgt := 16) hx hb dJ3_checkIndex_8e157_6 (by decide) (fun _ => ?_) (fun c => absurd h1 c)
  refine lv_iload_n hx hb dJ3_checkIndex_8e157_16 rfl (lv_at hl 0 rfl) ?_
  exact rt_i hx hb hr hlocks hP hD hS dJ3_checkIndex_8e157_17
set_option maxHeartbeats 4000000 in
theorem c_J0_check (l : Launch) (E : EV) (j n : Int32) (h0 : ¬ j < 0) (h1 : j < n) : Ct l E yJ0_checkIndex_df160 cJ0_checkIndex_df160 2 none (rmk 1 22) [.int j, .int n] [] [] none := by
  refine Ct.of (by decide) (Nat.le_of_ble_eq_true rfl) ?_
  intro p e s m below meth c A ls hC hP hD hl
  obtain ⟨hx, hb, hr, hml, hown, hlocks, hE, hA⟩ := hC
  have hS : va_S A s.heap s.heap [] := va_S.rf
  have hl : lv_has ls 2 [(0, .int j), (1, .int n)] := hl
  refine lv_iload_n hx hb dJ0_checkIndex_df160_0 rfl (lv_at hl 0 rfl) ?_
  refine lv_iload_n hx hb dJ0_checkIndex_df160_1 rfl (lv_at hl 1 rfl) ?_
  have go : ∀ v : Value, (v = .null ∨ ∃ t, v = .ref t) → W p l e (rmk 1 22) s m [.int j, .int n].toArray below meth c s.heap [] 0 0 (MQ below (Qct E A [] none) [.int j, .int n].toArray s 0 0 A) (F0 m 5 ls [v, .int n, .int j]) := by
    intro v hv
    refine cS (X := []) (Y := []) (w := []) (w' := []) lk_J0_1059 hx hb hml hown hE hA (c_J3_check l E j n v hv h0 h1) rfl rfl hP hD hS ⟨rfl, rfl, Nat.le_of_ble_eq_true rfl, Nat.le_of_ble_eq_true rfl⟩ hl.1 (As := [.int j, .int n, v]) (rest := []) rfl rfl (Nat.le_of_ble_eq_true rfl) ⟨Nat.zero_le _, Nat.zero_le _⟩ dJ0_checkIndex_df160_5 (fun H locs hP hD hS => ?_)
    refine W.eq (g2 := F0 m 8 ls [.int j]) rfl ?_
    refine lv_pop hx hb dJ0_checkIndex_df160_8 rfl ?_
    exact rt_v hx hb hr hlocks hP hD hS dJ0_checkIndex_df160_9
  rcases hE.2.2.2.2.2.1 with hZ | ⟨t, hZ⟩
  · refine va_gets hx hb hZ hS hown (hE.w tw_439) (fun _ h9 => h9) dJ0_checkIndex_df160_2 ?_
    exact go .null (Or.inl rfl)
  · refine va_gets hx hb hZ hS hown (hE.w tw_439) (fun _ h9 => h9) dJ0_checkIndex_df160_2 ?_
    exact go (.ref t) (Or.inr ⟨t, rfl⟩)
theorem lt_in {j : Int32} {n : Nat} (hn : n < 2 ^ 31) (h : vp_in j n) : ¬ j < 0 ∧ j < nI n := by
  refine ⟨fun q => h (Or.inl q), ?_⟩
  obtain ⟨k, hk, rfl⟩ := vp_in_of h hn
  exact nI_lt hk hn
set_option maxHeartbeats 4000000 in
theorem c_J1_charAt (l : Launch) (E : EV) (i : Nat) (hi : i < 15) (j : Int32) (hj : vp_in j (st_len.getD i 0)) : Ct l E yJ1_charAt_3b067 cJ1_charAt_3b067 2 (some .char) (rmk 2 43) [.ref (E.2.2.2.2 i), .int j] [] [] (some (.int (st_ch i j))) := by
  refine Ct.of (by decide) (Nat.le_of_ble_eq_true rfl) ?_
  intro p e s m below meth c A ls hC hP hD hl
  obtain ⟨hx, hb, hr, hml, hown, hlocks, hE, hA⟩ := hC
  have hS : va_S A s.heap s.heap [] := va_S.rf
  have hl : lv_has ls 2 [(0, .ref (E.2.2.2.2 i)), (1, .int j)] := hl
  have hT := (hE.2.2.2.2.2.2.1.1 i hi).2.2.2
  obtain ⟨h0, h1⟩ := lt_in (st_small i hi) hj
  refine lv_iload_n hx hb dJ1_charAt_3b067_0 rfl (lv_at hl 1 rfl) ?_
  refine lv_aload_n hx hb dJ1_charAt_3b067_1 rfl (lv_at hl 0 rfl) ?_
  refine va_tlen (v := nI (st_len.getD i 0)) hx hb hT hS rfl dJ1_charAt_3b067_2 ?_
  refine cS (X := []) (Y := []) (w := []) (w' := []) lk_J1_9 hx hb hml hown hE hA (c_J0_check l E j (nI (st_len.getD i 0)) h0 h1) rfl rfl hP hD hS ⟨rfl, rfl, Nat.le_of_ble_eq_true rfl, Nat.le_of_ble_eq_true rfl⟩ hl.1 (As := [.int j, .int (nI (st_len.getD i 0))]) (rest := []) rfl rfl (Nat.le_of_ble_eq_true rfl) ⟨Nat.zero_le _, Nat.zero_le _⟩ dJ1_charAt_3b067_3 (fun H locs hP hD hS => ?_)
  refine W.eq (g2 := F0 m 6 ls []) rfl ?_
  refine lv_aload_n hx hb dJ1_charAt_3b067_6 rfl (lv_at hl 0 rfl) ?_
  refine lv_iload_n hx hb dJ1_charAt_3b067_7 rfl (lv_at hl 1 rfl) ?_
  refine va_tb (v := .int ((st_byt.getD i []).getD j.toNatClampNeg 0)) hx hb hT hS hj rfl dJ1_charAt_3b067_8 ?_
  refine lv_sipush (v := 255) hx hb dJ1_charAt_3b067_9 (by decide) ?_
  refine lv_iand hx hb dJ1_charAt_3b067_12 ?_
  refine lv_i2c (v := st_ch i j) hx hb dJ1_charAt_3b067_13 rfl ?_
  exact rt_z (pk_nc _) hx hb hr hlocks hP hD hS dJ1_charAt_3b067_14
set_option maxHeartbeats 4000000 in
theorem c_chr (l : Launch) (E : EV) (i : Nat) (hi : i < 15) (j : Int32) (hj : vp_in j (st_len.getD i 0)) : Ct l E yJ0_charAt_5068e cJ0_charAt_5068e 2 (some .char) (rmk 3 64) [.ref (E.2.2.2.1 i), .int j] [] [] (some (.int (st_ch i j))) := by
  refine Ct.of (by decide) (Nat.le_of_ble_eq_true rfl) ?_
  intro p e s m below meth c A ls hC hP hD hl
  obtain ⟨hx, hb, hr, hml, hown, hlocks, hE, hA⟩ := hC
  have hS : va_S A s.heap s.heap [] := va_S.rf
  have hl : lv_has ls 2 [(0, .ref (E.2.2.2.1 i)), (1, .int j)] := hl
  refine lv_aload_n hx hb dJ0_charAt_5068e_0 rfl (lv_at hl 0 rfl) ?_
  refine cVs lk_J0_492 hx hb hml hown hE hA (c_J0_isLatin1 l E i hi) hi hP hD hS ⟨rfl, rfl, Nat.le_of_ble_eq_true rfl, Nat.le_of_ble_eq_true rfl⟩ hl.1 (As := []) (rest := []) rfl rfl (Nat.le_of_ble_eq_true rfl) ⟨Nat.zero_le _, Nat.zero_le _⟩ dJ0_charAt_5068e_1 (fun H locs hP hD hS => ?_)
  refine W.eq (g2 := F0 m 4 ls [.int 1]) rfl ?_
  refine lv_if_eq (tgt := 16) hx hb dJ0_charAt_5068e_4 (by decide) (fun c => absurd c (by decide)) (fun _ => ?_)
  refine lv_aload_n hx hb dJ0_charAt_5068e_7 rfl (lv_at hl 0 rfl) ?_
  refine vk_getf hx hb (hE.2.2.2.2.2.2.1.1 i hi).2.2.1 hS hown (hE.w tw_1001) (fun _ h9 => h9) dJ0_charAt_5068e_8 ?_
  refine lv_iload_n hx hb dJ0_charAt_5068e_11 rfl (lv_at hl 1 rfl) ?_
  refine cS (X := []) (Y := []) (w := []) (w' := []) lk_J0_495 hx hb hml hown hE hA (c_J1_charAt l E i hi j hj) rfl rfl hP hD hS ⟨rfl, rfl, Nat.le_of_ble_eq_true rfl, Nat.le_of_ble_eq_true rfl⟩ hl.1 (As := [.ref (E.2.2.2.2 i), .int j]) (rest := []) rfl rfl (Nat.le_of_ble_eq_true rfl) ⟨Nat.zero_le _, Nat.zero_le _⟩ dJ0_charAt_5068e_12 (fun H locs hP hD hS => ?_)
  refine W.eq (g2 := F0 m 15 ls [.int (st_ch i j)]) rfl ?_
  exact rt_z (pk_nc _) hx hb hr hlocks hP hD hS dJ0_charAt_5068e_15
