def law_tm (i : Nat) : Term := .string "NotedHouse$Text" (st_idx.getD i 0)
theorem law_s1 : ∀ i, i < 15 → Cond.exactly (law_tm i) "java/lang/String" ∈ flatC (Jvm.Cond.and given_1 narrow_1) := by decide +kernel
theorem law_s2 : ∀ i, i < 15 → Cond.eq (.field (law_tm i) "java/lang/String" "coder" "B") (.int 0) ∈ flatC (Jvm.Cond.and given_1 narrow_1) := by decide +kernel
theorem law_s3 : ∀ i, i < 15 → Cond.arrayOf (.field (law_tm i) "java/lang/String" "value" "[B") .byte ∈ flatC (Jvm.Cond.and given_1 narrow_1) := by decide +kernel
theorem law_s4 : ∀ i, i < 15 → Cond.eq (.length (.field (law_tm i) "java/lang/String" "value" "[B")) (.int (Int32.ofNat (st_len.getD i 0))) ∈ flatC (Jvm.Cond.and given_1 narrow_1) := by decide +kernel
theorem law_s5 : ∀ i, i < 15 → ∀ j, j < st_len.getD i 0 → Cond.eq (.elem (.field (law_tm i) "java/lang/String" "value" "[B") (.int (Int32.ofNat j))) (.int ((st_byt.getD i []).getD j 0)) ∈ flatC (Jvm.Cond.and given_1 narrow_1) := by decide +kernel
theorem law_n0 : ∀ j, j < 15 → 0 < j → (flatC (Jvm.Cond.and given_1 narrow_1))[([0, 32, 42, 53, 64, 77, 91, 105, 123, 141, 161, 181, 201, 223, 245] : List Nat).getD j 0]? = some (Cond.not (Cond.eq (law_tm 0) (law_tm j))) := by decide +kernel
theorem law_n1 : ∀ j, j < 15 → 1 < j → (flatC (Jvm.Cond.and given_1 narrow_1))[([0, 0, 43, 54, 65, 78, 92, 106, 124, 142, 162, 182, 202, 224, 246] : List Nat).getD j 0]? = some (Cond.not (Cond.eq (law_tm 1) (law_tm j))) := by decide +kernel
theorem law_n2 : ∀ j, j < 15 → 2 < j → (flatC (Jvm.Cond.and given_1 narrow_1))[([0, 0, 0, 55, 66, 79, 93, 107, 125, 143, 163, 183, 203, 225, 247] : List Nat).getD j 0]? = some (Cond.not (Cond.eq (law_tm 2) (law_tm j))) := by decide +kernel
theorem law_n3 : ∀ j, j < 15 → 3 < j → (flatC (Jvm.Cond.and given_1 narrow_1))[([0, 0, 0, 0, 67, 80, 94, 108, 126, 144, 164, 184, 204, 226, 248] : List Nat).getD j 0]? = some (Cond.not (Cond.eq (law_tm 3) (law_tm j))) := by decide +kernel
theorem law_n4 : ∀ j, j < 15 → 4 < j → (flatC (Jvm.Cond.and given_1 narrow_1))[([0, 0, 0, 0, 0, 81, 95, 109, 127, 145, 165, 185, 205, 227, 249] : List Nat).getD j 0]? = some (Cond.not (Cond.eq (law_tm 4) (law_tm j))) := by decide +kernel
theorem law_n5 : ∀ j, j < 15 → 5 < j → (flatC (Jvm.Cond.and given_1 narrow_1))[([0, 0, 0, 0, 0, 0, 96, 110, 128, 146, 166, 186, 206, 228, 250] : List Nat).getD j 0]? = some (Cond.not (Cond.eq (law_tm 5) (law_tm j))) := by decide +kernel
theorem law_n6 : ∀ j, j < 15 → 6 < j → (flatC (Jvm.Cond.and given_1 narrow_1))[([0, 0, 0, 0, 0, 0, 0, 111, 129, 147, 167, 187, 207, 229, 251] : List Nat).getD j 0]? = some (Cond.not (Cond.eq (law_tm 6) (law_tm j))) := by decide +kernel
theorem law_n7 : ∀ j, j < 15 → 7 < j → (flatC (Jvm.Cond.and given_1 narrow_1))[([0, 0, 0, 0, 0, 0, 0, 0, 130, 148, 168, 188, 208, 230, 252] : List Nat).getD j 0]? = some (Cond.not (Cond.eq (law_tm 7) (law_tm j))) := by decide +kernel
theorem law_n8 : ∀ j, j < 15 → 8 < j → (flatC (Jvm.Cond.and given_1 narrow_1))[([0, 0, 0, 0, 0, 0, 0, 0, 0, 149, 169, 189, 209, 231, 253] : List Nat).getD j 0]? = some (Cond.not (Cond.eq (law_tm 8) (law_tm j))) := by decide +kernel
theorem law_n9 : ∀ j, j < 15 → 9 < j → (flatC (Jvm.Cond.and given_1 narrow_1))[([0, 0, 0, 0, 0, 0, 0, 0, 0, 0, 170, 190, 210, 232, 254] : List Nat).getD j 0]? = some (Cond.not (Cond.eq (law_tm 9) (law_tm j))) := by decide +kernel
theorem law_n10 : ∀ j, j < 15 → 10 < j → (flatC (Jvm.Cond.and given_1 narrow_1))[([0, 0, 0, 0, 0, 0, 0, 0, 0, 0, 0, 191, 211, 233, 255] : List Nat).getD j 0]? = some (Cond.not (Cond.eq (law_tm 10) (law_tm j))) := by decide +kernel
theorem law_n11 : ∀ j, j < 15 → 11 < j → (flatC (Jvm.Cond.and given_1 narrow_1))[([0, 0, 0, 0, 0, 0, 0, 0, 0, 0, 0, 0, 212, 234, 256] : List Nat).getD j 0]? = some (Cond.not (Cond.eq (law_tm 11) (law_tm j))) := by decide +kernel
theorem law_n12 : ∀ j, j < 15 → 12 < j → (flatC (Jvm.Cond.and given_1 narrow_1))[([0, 0, 0, 0, 0, 0, 0, 0, 0, 0, 0, 0, 0, 235, 257] : List Nat).getD j 0]? = some (Cond.not (Cond.eq (law_tm 12) (law_tm j))) := by decide +kernel
theorem law_n13 : ∀ j, j < 15 → 13 < j → (flatC (Jvm.Cond.and given_1 narrow_1))[([0, 0, 0, 0, 0, 0, 0, 0, 0, 0, 0, 0, 0, 0, 258] : List Nat).getD j 0]? = some (Cond.not (Cond.eq (law_tm 13) (law_tm j))) := by decide +kernel
theorem law_n14 : ∀ j, j < 15 → 14 < j → (flatC (Jvm.Cond.and given_1 narrow_1))[([0, 0, 0, 0, 0, 0, 0, 0, 0, 0, 0, 0, 0, 0, 0] : List Nat).getD j 0]? = some (Cond.not (Cond.eq (law_tm 14) (law_tm j))) := by decide +kernel
theorem law_s6a {i j : Nat} (hi : i < 15) (hj : j < 15) (h : i < j) : Cond.not (Cond.eq (law_tm i) (law_tm j)) ∈ flatC (Jvm.Cond.and given_1 narrow_1) := by
  match i, hi with
  | 0, _ => exact List.mem_of_getElem? (law_n0 j hj h)
  | 1, _ => exact List.mem_of_getElem? (law_n1 j hj h)
  | 2, _ => exact List.mem_of_getElem? (law_n2 j hj h)
  | 3, _ => exact List.mem_of_getElem? (law_n3 j hj h)
  | 4, _ => exact List.mem_of_getElem? (law_n4 j hj h)
  | 5, _ => exact List.mem_of_getElem? (law_n5 j hj h)
  | 6, _ => exact List.mem_of_getElem? (law_n6 j hj h)
  | 7, _ => exact List.mem_of_getElem? (law_n7 j hj h)
  | 8, _ => exact List.mem_of_getElem? (law_n8 j hj h)
  | 9, _ => exact List.mem_of_getElem? (law_n9 j hj h)
  | 10, _ => exact List.mem_of_getElem? (law_n10 j hj h)
  | 11, _ => exact List.mem_of_getElem? (law_n11 j hj h)
  | 12, _ => exact List.mem_of_getElem? (law_n12 j hj h)
  | 13, _ => exact List.mem_of_getElem? (law_n13 j hj h)
  | 14, _ => exact List.mem_of_getElem? (law_n14 j hj h)
  | k + 15, hi => omega
theorem law_s6 : ∀ i, i < 15 → ∀ j, j < 15 → i ≠ j → Cond.not (Cond.eq (law_tm i) (law_tm j)) ∈ flatC (Jvm.Cond.and given_1 narrow_1) ∨ Cond.not (Cond.eq (law_tm j) (law_tm i)) ∈ flatC (Jvm.Cond.and given_1 narrow_1) := by
  intro i hi j hj hij
  rcases Nat.lt_or_gt_of_ne hij with h | h
  · exact Or.inl (law_s6a hi hj h)
  · exact Or.inr (law_s6a hj hi h)
theorem law_s7 : ∀ j, j < 6 → Cond.eq (.elem (.static "NotedHouse" "KIND_ABOVE" "[I") (.int (Int32.ofNat j))) (.int (ka_f j)) ∈ flatC (Jvm.Cond.and given_1 narrow_1) := by decide +kernel
theorem law_s8 : ∀ i, i < 15 → Cond.stringRef "NotedHouse$Text" (st_idx.getD i 0) (st_tx.getD i "") ∈ lw_tbl := by decide +kernel
set_option maxHeartbeats 4000000 in
set_option maxRecDepth 100000 in
/-- the environment at the law's entry -/
theorem law_env {p : Program} {s : State} {m : MethodId} {meth : Method} {c : Code} {b L : Nat} {xs : Nat → Int32} (C0 : lw_At p s m meth c b L xs) : ∃ E : EV, Ev E (fun q : Nat => s.heap.size ≤ q) s ∧ va_AO "NotedHouse$Sheet" s := by
  obtain ⟨hx, hb, hr, hml, hown, hts, hX, hbl, hlocks, hgv⟩ := C0
  have hA : ∀ a : Nat, a < s.heap.size → ¬ (fun q : Nat => s.heap.size ≤ q) a := fun a h => Nat.not_le.mpr h
  have hs := flat_of_before _ hgv
  have htb : ∀ w ∈ tbl, ∀ a : Array Value, w.before a s = true := fun w hw a => tb_warm (State.WarmedH.refl s) w (tb_ok w hw) (hts w (List.mem_filter.mp hw).1) a
  have hO : (Cond.arrayOver (.object "NotedHouse$Sheet")).before #[Value.ref b] s = true := hts _ (List.mem_append_right _ (List.mem_of_getElem? (i := 99) (by decide +kernel)))
  obtain ⟨c0, iS0, hKn0⟩ := u_known (C := RX0) (T := TX0) (N := 10) (n := 10) (fun w hw => htb w hw #[]) inX0 (htb _ tw_21 #[])
  obtain ⟨c1, iS1, hKn1⟩ := u_known (C := RX1) (T := TX1) (N := 3) (n := 3) (fun w hw => htb w hw #[]) inX1 (htb _ tw_100 #[])
  obtain ⟨c2, iS2, hKn2⟩ := u_known (C := RX2) (T := TX2) (N := 6) (n := 6) (fun w hw => htb w hw #[]) inX2 (htb _ tw_72 #[])
  obtain ⟨c3, iS3, hKn3⟩ := u_known (C := RX3) (T := TX3) (N := 7) (n := 7) (fun w hw => htb w hw #[]) inX3 (htb _ tw_13 #[])
  obtain ⟨c4, iS4, hKn4⟩ := u_known (C := RX4) (T := TX4) (N := 18) (n := 18) (fun w hw => htb w hw #[]) inX4 (htb _ tw_593 #[])
  obtain ⟨ai, ki, pi, i1, i2, i3⟩ := Cond.arrayClass_spec (htb _ tw_70 #[])
  obtain ⟨aj, kj, pj, j1, j2, j3⟩ := Cond.arrayClass_spec (htb _ tw_118 #[])
  obtain ⟨ab, kb, pb, b1, b2, b3⟩ := Cond.arrayClass_spec (htb _ tw_97 #[])
  obtain ⟨po, ao, ko, o1, -, o2, o3, o4⟩ := Cond.arrayOver_spec hO
  obtain ⟨kt, kt1, kt2⟩ := va_Tof (tm := .static "NotedHouse" "KIND_ABOVE" "[I") (N := 6) (ty := .int) (f := fun j => .int (ka_f j)) (by decide) (hs _ (by decide +kernel)) (va_eqt (z := Int32.ofNat 6) (hs _ (by decide +kernel))) (fun j hj => va_eqt (hs _ (law_s7 j hj))) hA
  have hZ1 := va_Zref (A := fun q : Nat => s.heap.size ≤ q) (hts _ (List.mem_append_right _ (List.mem_of_getElem? (i := 248) (by decide +kernel)))) (htb _ tw_1 _) kt1 hA
  have hZ3 := va_Zof (A := fun q : Nat => s.heap.size ≤ q) (hts _ (List.mem_append_right _ (List.mem_of_getElem? (i := 424) (by decide +kernel)))) (htb _ tw_8 _) (va_eqi (C := "java/lang/String") (n := "COMPACT_STRINGS") (d := "Z") (z := 1) (hs _ (by decide +kernel))) hA
  have hZ4 := va_Zqof (A := fun q : Nat => s.heap.size ≤ q) (hts _ (List.mem_append_right _ (List.mem_of_getElem? (i := 440) (by decide +kernel)))) (htb _ tw_10 _) (hs (Cond.isRef (.static "jdk/internal/util/Preconditions" "SIOOBE_FORMATTER" "Ljava/util/function/BiFunction;")) (by decide +kernel)) hA
  obtain ⟨adK, adV, hV, hVe⟩ := vk_Sof (N := 15) (tm := law_tm) (len := st_len) (byt := st_byt) (A := fun q : Nat => s.heap.size ≤ q) st_small (fun i hi => hs _ (law_s1 i hi)) (fun i hi => hs _ (law_s2 i hi)) (fun i hi => hs _ (law_s3 i hi)) (fun i hi => hs _ (law_s4 i hi)) (fun i hi j hj => hs _ (law_s5 i hi j hj)) (fun i j hi hj hij => (law_s6 i hi j hj hij).imp (hs _) (hs _)) hA
  refine ⟨((fun k => if k = 0 then c0 else if k = 1 then c1 else if k = 2 then c2 else if k = 3 then c3 else c4, fun k => if k = 0 then iS0 else if k = 1 then iS1 else if k = 2 then iS2 else if k = 3 then iS3 else iS4), (fun k => if k = 0 then ai else if k = 1 then aj else if k = 2 then ab else ao), kt, adK, adV), ⟨htb, ⟨?_, ?_⟩, hZ1, kt2, hZ3, hZ4, hV, ?_⟩, hO⟩
  · intro k q hq
    match k, hq with
    | 0, hq => cases hq; exact hKn0
    | 1, hq => cases hq; exact hKn1
    | 2, hq => cases hq; exact hKn2
    | 3, hq => cases hq; exact hKn3
    | 4, hq => cases hq; exact hKn4
    | k + 5, hq => simp [vwCl] at hq
  · intro k q hq
    match k, hq with
    | 0, hq => cases hq; exact ⟨fun n z => ⟨fun k h => (by cases h), ki, i2, pi, i3⟩, i1⟩
    | 1, hq => cases hq; exact ⟨fun n z => ⟨fun k h => (by cases h), kj, j2, pj, j3⟩, j1⟩
    | 2, hq => cases hq; exact ⟨fun n z => ⟨fun k h => (by cases h), kb, b2, pb, b3⟩, b1⟩
    | 3, hq => cases hq; exact ⟨fun n z => ⟨fun k h => (by cases h), ko, o2, po, o3⟩, ko, po, o2, o3, o1, o4⟩
    | k + 4, hq => simp [tysE] at hq
  · intro i hi
    exact vk_R.of (hts _ (law_s8 i hi)) (hVe i hi)
set_option maxHeartbeats 4000000 in
set_option maxRecDepth 100000 in
/-- THE LAW, from its entry -/
theorem whole_start {p : Program} {e : Env} {s : State} {m : MethodId} {below : List Frame} {meth : Method} {c : Code} (l : Launch) (hflags : l.flags = flags0) {b L : Nat} {xs : Nat → Int32} (hL : L ≤ 3072) (C0 : lw_At p s m meth c b L xs) : W p l e room_1 s m #[Value.ref b] below meth c s.heap [] 0 0 (lw_Z below #[Value.ref b] s) (entryFrame m ([Value.ref b] : List Value).toArray 4) := by
  obtain ⟨E, hE, hO⟩ := law_env C0
  obtain ⟨hx, hb, hr, hml, hown, hts, hX, hbl, hlocks, hgv⟩ := id C0
  have hA : ∀ q : Nat, s.heap.size ≤ q → (fun q : Nat => s.heap.size ≤ q) q := fun _ h => h
  obtain ⟨h', m', hf3, hf4, hRel⟩ := start
  have hS : va_S (fun q : Nat => s.heap.size ≤ q) s.heap s.heap [] := va_S.rf
  have hP : va_P E.1 vwCl [] s.heap := fun k q h => by simp at h
  have hD : va_D (fun q : Nat => s.heap.size ≤ q) [] := ⟨fun i j p q h => by simp at h, fun k q h => by simp at h⟩
  have hl := lv_entry ([.ref b]) (n := 4) (Nat.le_of_ble_eq_true rfl)
  rw [lg_entry_eq]
  generalize (lg_sl ([.ref b]) ++ List.replicate (4 - (lg_sl ([.ref b])).length) Slot.unset).toArray = ls at hl ⊢
  have hl : lv_has ls 4 [(0, .ref b)] := hl
  refine va_new (D := E.1) (cl := vwCl) (ci := 3) (fs := [.null, .null, .null, .int 0, .null, .null, .null]) (C := RX3) (T := TX3) (N := 7) hx hb (Ts := tbl) (fun w hw => hE.w hw) inX3 tyX3 tyX3_ok hown (hE.w tw_12) (hE.w tw_13) (hE.w tw_1) hE.2.1 hP hD hS hA rfl (by decide) (Nat.le_of_ble_eq_true rfl) (Nat.le_of_ble_eq_true rfl) dL_law_0 (fun q1 H hP hD hS => ?_)
  have hP : va_P E.1 vwCl (([] : va_W) ++ [(q1, .inr (3, [.null, .null, .null, .int 0, .null, .null, .null]))]) H := hP
  have hD : va_D (fun q : Nat => s.heap.size ≤ q) (([] : va_W) ++ [(q1, .inr (3, [.null, .null, .null, .int 0, .null, .null, .null]))]) := hD
  refine lv_dup hx hb dL_law_3 rfl ?_
  refine cI (X := ([] : va_W)) tw_14 tw_15 tw_1 tw_16 ⟨by decide +kernel, by decide +kernel⟩ (by decide +kernel) rfl hx hb hml hown hE hA hO (c_X3_init l E q1 h' hf3) hP hD hS ⟨rfl, rfl, Nat.le_of_ble_eq_true rfl, Nat.le_of_ble_eq_true rfl⟩ hl.1 (rest := [.ref q1]) rfl (Nat.le_of_ble_eq_true rfl) ⟨Nat.le_of_ble_eq_true rfl, Nat.le_of_ble_eq_true rfl⟩ dL_law_4 (fun w1 H locs hZ hP hD hS => ?_)
  obtain ⟨a, rfl, rfl⟩ := hZ
  have hP : va_P E.1 vwCl (wX3 E a (zX3 h')) H := hP
  have hD : va_D (fun q : Nat => s.heap.size ≤ q) (wX3 E a (zX3 h')) := hD
  refine lv_astore_n (lv' := [(1, .ref (a 8 0)), (0, .ref b)]) hx hb dL_law_7 rfl hl (by decide) rfl (fun ls hl => ?_)
  refine va_new (D := E.1) (cl := vwCl) (ci := 4) (fs := [.null, .null, .null, .null, .int 0, .null, .null, .int 0, .null, .int 0, .int 0, .int 0, .long 0, .int 0, .null, .null, .null, .null]) (C := RX4) (T := TX4) (N := 18) hx hb (Ts := tbl) (fun w hw => hE.w hw) inX4 tyX4 tyX4_ok hown (hE.w tw_592) (hE.w tw_593) (hE.w tw_5) hE.2.1 hP hD hS hA rfl (by decide) (Nat.le_of_ble_eq_true rfl) (Nat.le_of_ble_eq_true rfl) dL_law_8 (fun q2 H hP hD hS => ?_)
  refine lv_dup hx hb dL_law_11 rfl ?_
  refine cI (X := wX3 E a (zX3 h')) tw_594 tw_595 tw_5 tw_596 ⟨by decide +kernel, by decide +kernel⟩ (by decide +kernel) rfl hx hb hml hown hE hA hO (c_X4_init l E q2 m' hf4) hP hD hS ⟨rfl, rfl, Nat.le_of_ble_eq_true rfl, Nat.le_of_ble_eq_true rfl⟩ hl.1 (rest := [.ref q2]) rfl (Nat.le_of_ble_eq_true rfl) ⟨Nat.le_of_ble_eq_true rfl, Nat.le_of_ble_eq_true rfl⟩ dL_law_12 (fun w1 H locs hZ hP hD hS => ?_)
  obtain ⟨bm, rfl, rfl⟩ := hZ
  refine lv_astore_n (lv' := [(2, .ref (bm 0)), (1, .ref (a 8 0)), (0, .ref b)]) hx hb dL_law_15 rfl hl (by decide) rfl (fun ls hl => ?_)
  refine lv_iconst (v := 0) hx hb dL_law_16 (by decide) ?_
  refine lv_istore_n (lv' := [(3, .int 0), (2, .ref (bm 0)), (1, .ref (a 8 0)), (0, .ref b)]) hx hb dL_law_17 rfl hl (by decide) rfl (fun ls hl => ?_)
  refine W.widen (k := 600000) (n := 7302250) (Nat.le_of_ble_eq_true rfl) (Nat.le_of_ble_eq_true rfl) ?_
  exact law_loop hL C0 hE (L + 7) 0 0 (by omega) (by omega) nI_0.symm (zX3 h') m' H locs ls hRel hP hD hS hl
