set_option maxHeartbeats 4000000 in
set_option maxRecDepth 100000 in
theorem law_play {p : Program} {l : Launch} {e : Env} {s : State} {m : MethodId} {below : List Frame} {meth : Method} {c : Code} {b L : Nat} {xs : Nat → Int32} {E : EV} {a : Nat → Nat → Nat} {bm : Nat → Nat} {x3 : Int32} (C0 : lw_At p s m meth c b L xs) (hE : Ev E (fun q : Nat => s.heap.size ≤ q) s) (h1 : vp_in (x3 + (1 : Int32)) L) (h2 : vp_in (x3 + (2 : Int32)) L) (h3 : vp_in (x3 + (3 : Int32)) L) (h4 : vp_in (x3 + (4 : Int32)) L) (h5 : vp_in (x3 + (5 : Int32)) L)
    (next : ∀ (n : NS) (m' : MS) (H : Heap) (locs : List Loc) (ls : Array Slot), Rel n m' → va_P E.1 vwCl (wX3 E a n ++ wX4 E bm m') H → va_D (fun q : Nat => s.heap.size ≤ q) (wX3 E a n ++ wX4 E bm m') → va_S (fun q : Nat => s.heap.size ≤ q) s.heap H locs → lv_has ls 4 [(3, .int x3), (2, .ref (bm 0)), (1, .ref (a 8 0)), (0, .ref b)] → W p l e room_1 s m #[Value.ref b] below meth c H locs 600000 7302250 (lw_Z below #[Value.ref b] s) (F0 m 1348 ls []))
    (n : NS) (m' : MS) (H : Heap) (locs : List Loc) (ls : Array Slot) (hR : Rel n m') (hP : va_P E.1 vwCl (wX3 E a n ++ wX4 E bm m') H) (hD : va_D (fun q : Nat => s.heap.size ≤ q) (wX3 E a n ++ wX4 E bm m')) (hS : va_S (fun q : Nat => s.heap.size ≤ q) s.heap H locs) (hl : lv_has ls 4 [(3, .int x3), (2, .ref (bm 0)), (1, .ref (a 8 0)), (0, .ref b)]) : W p l e room_1 s m #[Value.ref b] below meth c H locs 600000 7302250 (lw_Z below #[Value.ref b] s) (F0 m 196 ls []) := by
  obtain ⟨hx, hb, hr, hml, hown, hts, hX, hbl, hlocks, hgv⟩ := C0
  have hA : ∀ q : Nat, s.heap.size ≤ q → (fun q : Nat => s.heap.size ≤ q) q := fun _ h => h
  have hbA : ¬ (fun q : Nat => s.heap.size ≤ q) b := Nat.not_le.mpr hbl
  refine lv_aload_n hx hb dL_law_196 rfl (lv_at hl 2 rfl) ?_
  refine lv_aload_n hx hb dL_law_197 rfl (lv_at hl 3 rfl) ?_
  refine lv_iload_n hx hb dL_law_198 rfl (lv_at hl 0 rfl) ?_
  refine lv_iconst (v := (1 : Int32)) hx hb dL_law_199 (by decide) ?_
  refine lv_iadd hx hb dL_law_200 ?_
  refine va_sld hx hb hX hbl hbA hS h1 dL_law_201 ?_
  refine lv_aload_n hx hb dL_law_202 rfl (lv_at hl 3 rfl) ?_
  refine lv_iload_n hx hb dL_law_203 rfl (lv_at hl 0 rfl) ?_
  refine lv_iconst (v := (2 : Int32)) hx hb dL_law_204 (by decide) ?_
  refine lv_iadd hx hb dL_law_205 ?_
  refine va_sld hx hb hX hbl hbA hS h2 dL_law_206 ?_
  refine lv_aload_n hx hb dL_law_207 rfl (lv_at hl 3 rfl) ?_
  refine lv_iload_n hx hb dL_law_208 rfl (lv_at hl 0 rfl) ?_
  refine lv_iconst (v := (3 : Int32)) hx hb dL_law_209 (by decide) ?_
  refine lv_iadd hx hb dL_law_210 ?_
  refine va_sld hx hb hX hbl hbA hS h3 dL_law_211 ?_
  obtain ⟨r, n1, m1, hf3, hf4, hR1⟩ := op_play hR (xs (x3 + (1 : Int32)).toNatClampNeg) (xs (x3 + (2 : Int32)).toNatClampNeg) (xs (x3 + (3 : Int32)).toNatClampNeg)
  refine cV (X := []) (Y := wX4 E bm m') (w := (wX3 E a n ++ wX4 E bm m')) (w' := (wX3 E a n1 ++ wX4 E bm m')) (q0 := 0) lk_L_13 hx hb hml hown hE hA (c_X3_play l E a n (xs (x3 + (1 : Int32)).toNatClampNeg) (xs (x3 + (2 : Int32)).toNatClampNeg) (xs (x3 + (3 : Int32)).toNatClampNeg) r n1 hf3) rfl rfl hP hD hS rfl rfl ⟨rfl, rfl, Nat.le_of_ble_eq_true rfl, Nat.le_of_ble_eq_true rfl⟩ hl.1 (As := [.int (xs (x3 + (1 : Int32)).toNatClampNeg), .int (xs (x3 + (2 : Int32)).toNatClampNeg), .int (xs (x3 + (3 : Int32)).toNatClampNeg)]) (rest := []) rfl rfl (Nat.le_of_ble_eq_true rfl) ⟨Nat.le_refl _, Nat.le_refl _⟩ dL_law_212 (fun H locs hP hD hS => ?_)
  refine W.eq (g2 := F0 m 215 ls [.int r]) rfl ?_
  refine lv_aload_n hx hb dL_law_215 rfl (lv_at hl 1 rfl) ?_
  refine lv_aload_n hx hb dL_law_216 rfl (lv_at hl 3 rfl) ?_
  refine lv_iload_n hx hb dL_law_217 rfl (lv_at hl 0 rfl) ?_
  refine lv_iconst (v := (1 : Int32)) hx hb dL_law_218 (by decide) ?_
  refine lv_iadd hx hb dL_law_219 ?_
  refine va_sld hx hb hX hbl hbA hS h1 dL_law_220 ?_
  refine lv_aload_n hx hb dL_law_221 rfl (lv_at hl 3 rfl) ?_
  refine lv_iload_n hx hb dL_law_222 rfl (lv_at hl 0 rfl) ?_
  refine lv_iconst (v := (2 : Int32)) hx hb dL_law_223 (by decide) ?_
  refine lv_iadd hx hb dL_law_224 ?_
  refine va_sld hx hb hX hbl hbA hS h2 dL_law_225 ?_
  refine lv_aload_n hx hb dL_law_226 rfl (lv_at hl 3 rfl) ?_
  refine lv_iload_n hx hb dL_law_227 rfl (lv_at hl 0 rfl) ?_
  refine lv_iconst (v := (3 : Int32)) hx hb dL_law_228 (by decide) ?_
  refine lv_iadd hx hb dL_law_229 ?_
  refine va_sld hx hb hX hbl hbA hS h3 dL_law_230 ?_
  refine cV (X := wX3 E a n1) (Y := []) (w := (wX3 E a n1 ++ wX4 E bm m')) (w' := (wX3 E a n1 ++ wX4 E bm m1)) (q0 := 0) lk_L_17 hx hb hml hown hE hA (c_X4_play l E bm m' (xs (x3 + (1 : Int32)).toNatClampNeg) (xs (x3 + (2 : Int32)).toNatClampNeg) (xs (x3 + (3 : Int32)).toNatClampNeg) r m1 hf4) rfl rfl hP hD hS rfl rfl ⟨rfl, rfl, Nat.le_of_ble_eq_true rfl, Nat.le_of_ble_eq_true rfl⟩ hl.1 (As := [.int (xs (x3 + (1 : Int32)).toNatClampNeg), .int (xs (x3 + (2 : Int32)).toNatClampNeg), .int (xs (x3 + (3 : Int32)).toNatClampNeg)]) (rest := [.int r]) rfl rfl (Nat.le_of_ble_eq_true rfl) ⟨Nat.le_refl _, Nat.le_refl _⟩ dL_law_231 (fun H locs hP hD hS => ?_)
  refine W.eq (g2 := F0 m 234 ls [.int r, .int r]) rfl ?_
  refine lv_icmp_eq (tgt := 1348) hx hb dL_law_234 (by decide) (fun _ => ?_) (fun c9 => absurd rfl c9)
  exact next n1 m1 H locs ls hR1 hP hD hS hl
set_option maxHeartbeats 4000000 in
set_option maxRecDepth 100000 in
theorem law_now {p : Program} {l : Launch} {e : Env} {s : State} {m : MethodId} {below : List Frame} {meth : Method} {c : Code} {b L : Nat} {xs : Nat → Int32} {E : EV} {a : Nat → Nat → Nat} {bm : Nat → Nat} {x3 : Int32} (C0 : lw_At p s m meth c b L xs) (hE : Ev E (fun q : Nat => s.heap.size ≤ q) s) (h1 : vp_in (x3 + (1 : Int32)) L) (h2 : vp_in (x3 + (2 : Int32)) L) (h3 : vp_in (x3 + (3 : Int32)) L) (h4 : vp_in (x3 + (4 : Int32)) L) (h5 : vp_in (x3 + (5 : Int32)) L)
    (next : ∀ (n : NS) (m' : MS) (H : Heap) (locs : List Loc) (ls : Array Slot), Rel n m' → va_P E.1 vwCl (wX3 E a n ++ wX4 E bm m') H → va_D (fun q : Nat => s.heap.size ≤ q) (wX3 E a n ++ wX4 E bm m') → va_S (fun q : Nat => s.heap.size ≤ q) s.heap H locs → lv_has ls 4 [(3, .int x3), (2, .ref (bm 0)), (1, .ref (a 8 0)), (0, .ref b)] → W p l e room_1 s m #[Value.ref b] below meth c H locs 600000 7302250 (lw_Z below #[Value.ref b] s) (F0 m 1348 ls []))
    (n : NS) (m' : MS) (H : Heap) (locs : List Loc) (ls : Array Slot) (hR : Rel n m') (hP : va_P E.1 vwCl (wX3 E a n ++ wX4 E bm m') H) (hD : va_D (fun q : Nat => s.heap.size ≤ q) (wX3 E a n ++ wX4 E bm m')) (hS : va_S (fun q : Nat => s.heap.size ≤ q) s.heap H locs) (hl : lv_has ls 4 [(3, .int x3), (2, .ref (bm 0)), (1, .ref (a 8 0)), (0, .ref b)]) : W p l e room_1 s m #[Value.ref b] below meth c H locs 600000 7302250 (lw_Z below #[Value.ref b] s) (F0 m 239 ls []) := by
  obtain ⟨hx, hb, hr, hml, hown, hts, hX, hbl, hlocks, hgv⟩ := C0
  have hA : ∀ q : Nat, s.heap.size ≤ q → (fun q : Nat => s.heap.size ≤ q) q := fun _ h => h
  have hbA : ¬ (fun q : Nat => s.heap.size ≤ q) b := Nat.not_le.mpr hbl
  refine lv_aload_n hx hb dL_law_239 rfl (lv_at hl 2 rfl) ?_
  refine lv_aload_n hx hb dL_law_240 rfl (lv_at hl 3 rfl) ?_
  refine lv_iload_n hx hb dL_law_241 rfl (lv_at hl 0 rfl) ?_
  refine lv_iconst (v := (1 : Int32)) hx hb dL_law_242 (by decide) ?_
  refine lv_iadd hx hb dL_law_243 ?_
  refine va_sld hx hb hX hbl hbA hS h1 dL_law_244 ?_
  obtain ⟨r, n1, m1, hf3, hf4, hR1⟩ := op_now hR (xs (x3 + (1 : Int32)).toNatClampNeg)
  refine cV (X := []) (Y := wX4 E bm m') (w := (wX3 E a n ++ wX4 E bm m')) (w' := (wX3 E a n1 ++ wX4 E bm m')) (q0 := 0) lk_L_18 hx hb hml hown hE hA (c_X3_now l E a n (xs (x3 + (1 : Int32)).toNatClampNeg) r n1 hf3) rfl rfl hP hD hS rfl rfl ⟨rfl, rfl, Nat.le_of_ble_eq_true rfl, Nat.le_of_ble_eq_true rfl⟩ hl.1 (As := [.int (xs (x3 + (1 : Int32)).toNatClampNeg)]) (rest := []) rfl rfl (Nat.le_of_ble_eq_true rfl) ⟨Nat.le_refl _, Nat.le_refl _⟩ dL_law_245 (fun H locs hP hD hS => ?_)
  refine W.eq (g2 := F0 m 248 ls [.int r]) rfl ?_
  refine lv_aload_n hx hb dL_law_248 rfl (lv_at hl 1 rfl) ?_
  refine lv_aload_n hx hb dL_law_249 rfl (lv_at hl 3 rfl) ?_
  refine lv_iload_n hx hb dL_law_250 rfl (lv_at hl 0 rfl) ?_
  refine lv_iconst (v := (1 : Int32)) hx hb dL_law_251 (by decide) ?_
  refine lv_iadd hx hb dL_law_252 ?_
  refine va_sld hx hb hX hbl hbA hS h1 dL_law_253 ?_
  refine cV (X := wX3 E a n1) (Y := []) (w := (wX3 E a n1 ++ wX4 E bm m')) (w' := (wX3 E a n1 ++ wX4 E bm m1)) (q0 := 0) lk_L_22 hx hb hml hown hE hA (c_X4_now l E bm m' (xs (x3 + (1 : Int32)).toNatClampNeg) r m1 hf4) rfl rfl hP hD hS rfl rfl ⟨rfl, rfl, Nat.le_of_ble_eq_true rfl, Nat.le_of_ble_eq_true rfl⟩ hl.1 (As := [.int (xs (x3 + (1 : Int32)).toNatClampNeg)]) (rest := [.int r]) rfl rfl (Nat.le_of_ble_eq_true rfl) ⟨Nat.le_refl _, Nat.le_refl _⟩ dL_law_254 (fun H locs hP hD hS => ?_)
  refine W.eq (g2 := F0 m 257 ls [.int r, .int r]) rfl ?_
  refine lv_icmp_eq (tgt := 1348) hx hb dL_law_257 (by decide) (fun _ => ?_) (fun c9 => absurd rfl c9)
  exact next n1 m1 H locs ls hR1 hP hD hS hl
set_option maxHeartbeats 4000000 in
set_option maxRecDepth 100000 in
theorem law_person {p : Program} {l : Launch} {e : Env} {s : State} {m : MethodId} {below : List Frame} {meth : Method} {c : Code} {b L : Nat} {xs : Nat → Int32} {E : EV} {a : Nat → Nat → Nat} {bm : Nat → Nat} {x3 : Int32} (C0 : lw_At p s m meth c b L xs) (hE : Ev E (fun q : Nat => s.heap.size ≤ q) s) (h1 : vp_in (x3 + (1 : Int32)) L) (h2 : vp_in (x3 + (2 : Int32)) L) (h3 : vp_in (x3 + (3 : Int32)) L) (h4 : vp_in (x3 + (4 : Int32)) L) (h5 : vp_in (x3 + (5 : Int32)) L)
    (next : ∀ (n : NS) (m' : MS) (H : Heap) (locs : List Loc) (ls : Array Slot), Rel n m' → va_P E.1 vwCl (wX3 E a n ++ wX4 E bm m') H → va_D (fun q : Nat => s.heap.size ≤ q) (wX3 E a n ++ wX4 E bm m') → va_S (fun q : Nat => s.heap.size ≤ q) s.heap H locs → lv_has ls 4 [(3, .int x3), (2, .ref (bm 0)), (1, .ref (a 8 0)), (0, .ref b)] → W p l e room_1 s m #[Value.ref b] below meth c H locs 600000 7302250 (lw_Z below #[Value.ref b] s) (F0 m 1348 ls []))
    (n : NS) (m' : MS) (H : Heap) (locs : List Loc) (ls : Array Slot) (hR : Rel n m') (hP : va_P E.1 vwCl (wX3 E a n ++ wX4 E bm m') H) (hD : va_D (fun q : Nat => s.heap.size ≤ q) (wX3 E a n ++ wX4 E bm m')) (hS : va_S (fun q : Nat => s.heap.size ≤ q) s.heap H locs) (hl : lv_has ls 4 [(3, .int x3), (2, .ref (bm 0)), (1, .ref (a 8 0)), (0, .ref b)]) : W p l e room_1 s m #[Value.ref b] below meth c H locs 600000 7302250 (lw_Z below #[Value.ref b] s) (F0 m 262 ls []) := by
  obtain ⟨hx, hb, hr, hml, hown, hts, hX, hbl, hlocks, hgv⟩ := C0
  have hA : ∀ q : Nat, s.heap.size ≤ q → (fun q : Nat => s.heap.size ≤ q) q := fun _ h => h
  have hbA : ¬ (fun q : Nat => s.heap.size ≤ q) b := Nat.not_le.mpr hbl
  refine lv_aload_n hx hb dL_law_262 rfl (lv_at hl 2 rfl) ?_
  refine lv_aload_n hx hb dL_law_263 rfl (lv_at hl 3 rfl) ?_
  refine lv_iload_n hx hb dL_law_264 rfl (lv_at hl 0 rfl) ?_
  refine lv_iconst (v := (1 : Int32)) hx hb dL_law_265 (by decide) ?_
  refine lv_iadd hx hb dL_law_266 ?_
  refine va_sld hx hb hX hbl hbA hS h1 dL_law_267 ?_
  obtain ⟨r, n1, m1, hf3, hf4, hR1⟩ := op_person hR (xs (x3 + (1 : Int32)).toNatClampNeg)
  refine cV (X := []) (Y := wX4 E bm m') (w := (wX3 E a n ++ wX4 E bm m')) (w' := (wX3 E a n1 ++ wX4 E bm m')) (q0 := 0) lk_L_23 hx hb hml hown hE hA (c_X3_person l E a n (xs (x3 + (1 : Int32)).toNatClampNeg) r n1 hf3) rfl rfl hP hD hS rfl rfl ⟨rfl, rfl, Nat.le_of_ble_eq_true rfl, Nat.le_of_ble_eq_true rfl⟩ hl.1 (As := [.int (xs (x3 + (1 : Int32)).toNatClampNeg)]) (rest := []) rfl rfl (Nat.le_of_ble_eq_true rfl) ⟨Nat.le_refl _, Nat.le_refl _⟩ dL_law_268 (fun H locs hP hD hS => ?_)
  refine W.eq (g2 := F0 m 271 ls [.int r]) rfl ?_
  refine lv_aload_n hx hb dL_law_271 rfl (lv_at hl 1 rfl) ?_
  refine lv_aload_n hx hb dL_law_272 rfl (lv_at hl 3 rfl) ?_
  refine lv_iload_n hx hb dL_law_273 rfl (lv_at hl 0 rfl) ?_
  refine lv_iconst (v := (1 : Int32)) hx hb dL_law_274 (by decide) ?_
  refine lv_iadd hx hb dL_law_275 ?_
  refine va_sld hx hb hX hbl hbA hS h1 dL_law_276 ?_
  refine cV (X := wX3 E a n1) (Y := []) (w := (wX3 E a n1 ++ wX4 E bm m')) (w' := (wX3 E a n1 ++ wX4 E bm m1)) (q0 := 0) lk_L_26 hx hb hml hown hE hA (c_X4_person l E bm m' (xs (x3 + (1 : Int32)).toNatClampNeg) r m1 hf4) rfl rfl hP hD hS rfl rfl ⟨rfl, rfl, Nat.le_of_ble_eq_true rfl, Nat.le_of_ble_eq_true rfl⟩ hl.1 (As := [.int (xs (x3 + (1 : Int32)).toNatClampNeg)]) (rest := [.int r]) rfl rfl (Nat.le_of_ble_eq_true rfl) ⟨Nat.le_refl _, Nat.le_refl _⟩ dL_law_277 (fun H locs hP hD hS => ?_)
  refine W.eq (g2 := F0 m 280 ls [.int r, .int r]) rfl ?_
  refine lv_icmp_eq (tgt := 1348) hx hb dL_law_280 (by decide) (fun _ => ?_) (fun c9 => absurd rfl c9)
  exact next n1 m1 H locs ls hR1 hP hD hS hl
set_option maxHeartbeats 4000000 in
set_option maxRecDepth 100000 in
theorem law_of {p : Program} {l : Launch} {e : Env} {s : State} {m : MethodId} {below : List Frame} {meth : Method} {c : Code} {b L : Nat} {xs : Nat → Int32} {E : EV} {a : Nat → Nat → Nat} {bm : Nat → Nat} {x3 : Int32} (C0 : lw_At p s m meth c b L xs) (hE : Ev E (fun q : Nat => s.heap.size ≤ q) s) (h1 : vp_in (x3 + (1 : Int32)) L) (h2 : vp_in (x3 + (2 : Int32)) L) (h3 : vp_in (x3 + (3 : Int32)) L) (h4 : vp_in (x3 + (4 : Int32)) L) (h5 : vp_in (x3 + (5 : Int32)) L)
    (next : ∀ (n : NS) (m' : MS) (H : Heap) (locs : List Loc) (ls : Array Slot), Rel n m' → va_P E.1 vwCl (wX3 E a n ++ wX4 E bm m') H → va_D (fun q : Nat => s.heap.size ≤ q) (wX3 E a n ++ wX4 E bm m') → va_S (fun q : Nat => s.heap.size ≤ q) s.heap H locs → lv_has ls 4 [(3, .int x3), (2, .ref (bm 0)), (1, .ref (a 8 0)), (0, .ref b)] → W p l e room_1 s m #[Value.ref b] below meth c H locs 600000 7302250 (lw_Z below #[Value.ref b] s) (F0 m 1348 ls []))
    (n : NS) (m' : MS) (H : Heap) (locs : List Loc) (ls : Array Slot) (hR : Rel n m') (hP : va_P E.1 vwCl (wX3 E a n ++ wX4 E bm m') H) (hD : va_D (fun q : Nat => s.heap.size ≤ q) (wX3 E a n ++ wX4 E bm m')) (hS : va_S (fun q : Nat => s.heap.size ≤ q) s.heap H locs) (hl : lv_has ls 4 [(3, .int x3), (2, .ref (bm 0)), (1, .ref (a 8 0)), (0, .ref b)]) : W p l e room_1 s m #[Value.ref b] below meth c H locs 600000 7302250 (lw_Z below #[Value.ref b] s) (F0 m 285 ls []) := by
  obtain ⟨hx, hb, hr, hml, hown, hts, hX, hbl, hlocks, hgv⟩ := C0
  have hA : ∀ q : Nat, s.heap.size ≤ q → (fun q : Nat => s.heap.size ≤ q) q := fun _ h => h
  have hbA : ¬ (fun q : Nat => s.heap.size ≤ q) b := Nat.not_le.mpr hbl
  refine lv_aload_n hx hb dL_law_285 rfl (lv_at hl 2 rfl) ?_
  refine lv_aload_n hx hb dL_law_286 rfl (lv_at hl 3 rfl) ?_
  refine lv_iload_n hx hb dL_law_287 rfl (lv_at hl 0 rfl) ?_
  refine lv_iconst (v := (1 : Int32)) hx hb dL_law_288 (by decide) ?_
  refine lv_iadd hx hb dL_law_289 ?_
  refine va_sld hx hb hX hbl hbA hS h1 dL_law_290 ?_
  refine lv_aload_n hx hb dL_law_291 rfl (lv_at hl 3 rfl) ?_
  refine lv_iload_n hx hb dL_law_292 rfl (lv_at hl 0 rfl) ?_
  refine lv_iconst (v := (2 : Int32)) hx hb dL_law_293 (by decide) ?_
  refine lv_iadd hx hb dL_law_294 ?_
  refine va_sld hx hb hX hbl hbA hS h2 dL_law_295 ?_
  obtain ⟨r, n1, m1, hf3, hf4, hR1⟩ := op_of hR (xs (x3 + (1 : Int32)).toNatClampNeg) (xs (x3 + (2 : Int32)).toNatClampNeg)
  refine cV (X := []) (Y := wX4 E bm m') (w := (wX3 E a n ++ wX4 E bm m')) (w' := (wX3 E a n1 ++ wX4 E bm m')) (q0 := 0) lk_L_27 hx hb hml hown hE hA (c_X3_of l E a n (xs (x3 + (1 : Int32)).toNatClampNeg) (xs (x3 + (2 : Int32)).toNatClampNeg) r n1 hf3) rfl rfl hP hD hS rfl rfl ⟨rfl, rfl, Nat.le_of_ble_eq_true rfl, Nat.le_of_ble_eq_true rfl⟩ hl.1 (As := [.int (xs (x3 + (1 : Int32)).toNatClampNeg), .int (xs (x3 + (2 : Int32)).toNatClampNeg)]) (rest := []) rfl rfl (Nat.le_of_ble_eq_true rfl) ⟨Nat.le_refl _, Nat.le_refl _⟩ dL_law_296 (fun H locs hP hD hS => ?_)
  refine W.eq (g2 := F0 m 299 ls [.int r]) rfl ?_
  refine lv_aload_n hx hb dL_law_299 rfl (lv_at hl 1 rfl) ?_
  refine lv_aload_n hx hb dL_law_300 rfl (lv_at hl 3 rfl) ?_
  refine lv_iload_n hx hb dL_law_301 rfl (lv_at hl 0 rfl) ?_
  refine lv_iconst (v := (1 : Int32)) hx hb dL_law_302 (by decide) ?_
  refine lv_iadd hx hb dL_law_303 ?_
  refine va_sld hx hb hX hbl hbA hS h1 dL_law_304 ?_
  refine lv_aload_n hx hb dL_law_305 rfl (lv_at hl 3 rfl) ?_
  refine lv_iload_n hx hb dL_law_306 rfl (lv_at hl 0 rfl) ?_
  refine lv_iconst (v := (2 : Int32)) hx hb dL_law_307 (by decide) ?_
  refine lv_iadd hx hb dL_law_308 ?_
  refine va_sld hx hb hX hbl hbA hS h2 dL_law_309 ?_
  refine cV (X := wX3 E a n1) (Y := []) (w := (wX3 E a n1 ++ wX4 E bm m')) (w' := (wX3 E a n1 ++ wX4 E bm m1)) (q0 := 0) lk_L_31 hx hb hml hown hE hA (c_X4_of l E bm m' (xs (x3 + (1 : Int32)).toNatClampNeg) (xs (x3 + (2 : Int32)).toNatClampNeg) r m1 hf4) rfl rfl hP hD hS rfl rfl ⟨rfl, rfl, Nat.le_of_ble_eq_true rfl, Nat.le_of_ble_eq_true rfl⟩ hl.1 (As := [.int (xs (x3 + (1 : Int32)).toNatClampNeg), .int (xs (x3 + (2 : Int32)).toNatClampNeg)]) (rest := [.int r]) rfl rfl (Nat.le_of_ble_eq_true rfl) ⟨Nat.le_refl _, Nat.le_refl _⟩ dL_law_310 (fun H locs hP hD hS => ?_)
  refine W.eq (g2 := F0 m 313 ls [.int r, .int r]) rfl ?_
  refine lv_icmp_eq (tgt := 1348) hx hb dL_law_313 (by decide) (fun _ => ?_) (fun c9 => absurd rfl c9)
  exact next n1 m1 H locs ls hR1 hP hD hS hl
set_option maxHeartbeats 4000000 in
set_option maxRecDepth 100000 in
theorem law_scores {p : Program} {l : Launch} {e : Env} {s : State} {m : MethodId} {below : List Frame} {meth : Method} {c : Code} {b L : Nat} {xs : Nat → Int32} {E : EV} {a : Nat → Nat → Nat} {bm : Nat → Nat} {x3 : Int32} (C0 : lw_At p s m meth c b L xs) (hE : Ev E (fun q : Nat => s.heap.size ≤ q) s) (h1 : vp_in (x3 + (1 : Int32)) L) (h2 : vp_in (x3 + (2 : Int32)) L) (h3 : vp_in (x3 + (3 : Int32)) L) (h4 : vp_in (x3 + (4 : Int32)) L) (h5 : vp_in (x3 + (5 : Int32)) L)
    (next : ∀ (n : NS) (m' : MS) (H : Heap) (locs : List Loc) (ls : Array Slot), Rel n m' → va_P E.1 vwCl (wX3 E a n ++ wX4 E bm m') H → va_D (fun q : Nat => s.heap.size ≤ q) (wX3 E a n ++ wX4 E bm m') → va_S (fun q : Nat => s.heap.size ≤ q) s.heap H locs → lv_has ls 4 [(3, .int x3), (2, .ref (bm 0)), (1, .ref (a 8 0)), (0, .ref b)] → W p l e room_1 s m #[Value.ref b] below meth c H locs 600000 7302250 (lw_Z below #[Value.ref b] s) (F0 m 1348 ls []))
    (n : NS) (m' : MS) (H : Heap) (locs : List Loc) (ls : Array Slot) (hR : Rel n m') (hP : va_P E.1 vwCl (wX3 E a n ++ wX4 E bm m') H) (hD : va_D (fun q : Nat => s.heap.size ≤ q) (wX3 E a n ++ wX4 E bm m')) (hS : va_S (fun q : Nat => s.heap.size ≤ q) s.heap H locs) (hl : lv_has ls 4 [(3, .int x3), (2, .ref (bm 0)), (1, .ref (a 8 0)), (0, .ref b)]) : W p l e room_1 s m #[Value.ref b] below meth c H locs 600000 7302250 (lw_Z below #[Value.ref b] s) (F0 m 318 ls []) := by
  obtain ⟨hx, hb, hr, hml, hown, hts, hX, hbl, hlocks, hgv⟩ := C0
  have hA : ∀ q : Nat, s.heap.size ≤ q → (fun q : Nat => s.heap.size ≤ q) q := fun _ h => h
  have hbA : ¬ (fun q : Nat => s.heap.size ≤ q) b := Nat.not_le.mpr hbl
  refine lv_aload_n hx hb dL_law_318 rfl (lv_at hl 2 rfl) ?_
  refine lv_aload_n hx hb dL_law_319 rfl (lv_at hl 3 rfl) ?_
  refine lv_iload_n hx hb dL_law_320 rfl (lv_at hl 0 rfl) ?_
  refine lv_iconst (v := (1 : Int32)) hx hb dL_law_321 (by decide) ?_
  refine lv_iadd hx hb dL_law_322 ?_
  refine va_sld hx hb hX hbl hbA hS h1 dL_law_323 ?_
  refine lv_aload_n hx hb dL_law_324 rfl (lv_at hl 3 rfl) ?_
  refine lv_iload_n hx hb dL_law_325 rfl (lv_at hl 0 rfl) ?_
  refine lv_iconst (v := (2 : Int32)) hx hb dL_law_326 (by decide) ?_
  refine lv_iadd hx hb dL_law_327 ?_
  refine va_sld hx hb hX hbl hbA hS h2 dL_law_328 ?_
  refine lv_aload_n hx hb dL_law_329 rfl (lv_at hl 3 rfl) ?_
  refine lv_iload_n hx hb dL_law_330 rfl (lv_at hl 0 rfl) ?_
  refine lv_iconst (v := (3 : Int32)) hx hb dL_law_331 (by decide) ?_
  refine lv_iadd hx hb dL_law_332 ?_
  refine va_sld hx hb hX hbl hbA hS h3 dL_law_333 ?_
  obtain ⟨r, n1, m1, hf3, hf4, hR1⟩ := op_scores hR (xs (x3 + (1 : Int32)).toNatClampNeg) (xs (x3 + (2 : Int32)).toNatClampNeg) (xs (x3 + (3 : Int32)).toNatClampNeg)
  refine cV (X := []) (Y := wX4 E bm m') (w := (wX3 E a n ++ wX4 E bm m')) (w' := (wX3 E a n1 ++ wX4 E bm m')) (q0 := 0) lk_L_32 hx hb hml hown hE hA (c_X3_scores l E a n (xs (x3 + (1 : Int32)).toNatClampNeg) (xs (x3 + (2 : Int32)).toNatClampNeg) (xs (x3 + (3 : Int32)).toNatClampNeg) r n1 hf3) rfl rfl hP hD hS rfl rfl ⟨rfl, rfl, Nat.le_of_ble_eq_true rfl, Nat.le_of_ble_eq_true rfl⟩ hl.1 (As := [.int (xs (x3 + (1 : Int32)).toNatClampNeg), .int (xs (x3 + (2 : Int32)).toNatClampNeg), .int (xs (x3 + (3 : Int32)).toNatClampNeg)]) (rest := []) rfl rfl (Nat.le_of_ble_eq_true rfl) ⟨Nat.le_refl _, Nat.le_refl _⟩ dL_law_334 (fun H locs hP hD hS => ?_)
  refine W.eq (g2 := F0 m 337 ls [.int r]) rfl ?_
  refine lv_aload_n hx hb dL_law_337 rfl (lv_at hl 1 rfl) ?_
  refine lv_aload_n hx hb dL_law_338 rfl (lv_at hl 3 rfl) ?_
  refine lv_iload_n hx hb dL_law_339 rfl (lv_at hl 0 rfl) ?_
  refine lv_iconst (v := (1 : Int32)) hx hb dL_law_340 (by decide) ?_
  refine lv_iadd hx hb dL_law_341 ?_
  refine va_sld hx hb hX hbl hbA hS h1 dL_law_342 ?_
  refine lv_aload_n hx hb dL_law_343 rfl (lv_at hl 3 rfl) ?_
  refine lv_iload_n hx hb dL_law_344 rfl (lv_at hl 0 rfl) ?_
  refine lv_iconst (v := (2 : Int32)) hx hb dL_law_345 (by decide) ?_
  refine lv_iadd hx hb dL_law_346 ?_
  refine va_sld hx hb hX hbl hbA hS h2 dL_law_347 ?_
  refine lv_aload_n hx hb dL_law_348 rfl (lv_at hl 3 rfl) ?_
  refine lv_iload_n hx hb dL_law_349 rfl (lv_at hl 0 rfl) ?_
  refine lv_iconst (v := (3 : Int32)) hx hb dL_law_350 (by decide) ?_
  refine lv_iadd hx hb dL_law_351 ?_
  refine va_sld hx hb hX hbl hbA hS h3 dL_law_352 ?_
  refine cV (X := wX3 E a n1) (Y := []) (w := (wX3 E a n1 ++ wX4 E bm m')) (w' := (wX3 E a n1 ++ wX4 E bm m1)) (q0 := 0) lk_L_35 hx hb hml hown hE hA (c_X4_scores l E bm m' (xs (x3 + (1 : Int32)).toNatClampNeg) (xs (x3 + (2 : Int32)).toNatClampNeg) (xs (x3 + (3 : Int32)).toNatClampNeg) r m1 hf4) rfl rfl hP hD hS rfl rfl ⟨rfl, rfl, Nat.le_of_ble_eq_true rfl, Nat.le_of_ble_eq_true rfl⟩ hl.1 (As := [.int (xs (x3 + (1 : Int32)).toNatClampNeg), .int (xs (x3 + (2 : Int32)).toNatClampNeg), .int (xs (x3 + (3 : Int32)).toNatClampNeg)]) (rest := [.int r]) rfl rfl (Nat.le_of_ble_eq_true rfl) ⟨Nat.le_refl _, Nat.le_refl _⟩ dL_law_353 (fun H locs hP hD hS => ?_)
  refine W.eq (g2 := F0 m 356 ls [.int r, .int r]) rfl ?_
  refine lv_icmp_eq (tgt := 1348) hx hb dL_law_356 (by decide) (fun _ => ?_) (fun c9 => absurd rfl c9)
  exact next n1 m1 H locs ls hR1 hP hD hS hl
set_option maxHeartbeats 4000000 in
set_option maxRecDepth 100000 in
theorem law_set {p : Program} {l : Launch} {e : Env} {s : State} {m : MethodId} {below : List Frame} {meth : Method} {c : Code} {b L : Nat} {xs : Nat → Int32} {E : EV} {a : Nat → Nat → Nat} {bm : Nat → Nat} {x3 : Int32} (C0 : lw_At p s m meth c b L xs) (hE : Ev E (fun q : Nat => s.heap.size ≤ q) s) (h1 : vp_in (x3 + (1 : Int32)) L) (h2 : vp_in (x3 + (2 : Int32)) L) (h3 : vp_in (x3 + (3 : Int32)) L) (h4 : vp_in (x3 + (4 : Int32)) L) (h5 : vp_in (x3 + (5 : Int32)) L)
    (next : ∀ (n : NS) (m' : MS) (H : Heap) (locs : List Loc) (ls : Array Slot), Rel n m' → va_P E.1 vwCl (wX3 E a n ++ wX4 E bm m') H → va_D (fun q : Nat => s.heap.size ≤ q) (wX3 E a n ++ wX4 E bm m') → va_S (fun q : Nat => s.heap.size ≤ q) s.heap H locs → lv_has ls 4 [(3, .int x3), (2, .ref (bm 0)), (1, .ref (a 8 0)), (0, .ref b)] → W p l e room_1 s m #[Value.ref b] below meth c H locs 600000 7302250 (lw_Z below #[Value.ref b] s) (F0 m 1348 ls []))
    (n : NS) (m' : MS) (H : Heap) (locs : List Loc) (ls : Array Slot) (hR : Rel n m') (hP : va_P E.1 vwCl (wX3 E a n ++ wX4 E bm m') H) (hD : va_D (fun q : Nat => s.heap.size ≤ q) (wX3 E a n ++ wX4 E bm m')) (hS : va_S (fun q : Nat => s.heap.size ≤ q) s.heap H locs) (hl : lv_has ls 4 [(3, .int x3), (2, .ref (bm 0)), (1, .ref (a 8 0)), (0, .ref b)]) : W p l e room_1 s m #[Value.ref b] below meth c H locs 600000 7302250 (lw_Z below #[Value.ref b] s) (F0 m 361 ls []) := by
  obtain ⟨hx, hb, hr, hml, hown, hts, hX, hbl, hlocks, hgv⟩ := C0
  have hA : ∀ q : Nat, s.heap.size ≤ q → (fun q : Nat => s.heap.size ≤ q) q := fun _ h => h
  have hbA : ¬ (fun q : Nat => s.heap.size ≤ q) b := Nat.not_le.mpr hbl
  refine lv_aload_n hx hb dL_law_361 rfl (lv_at hl 2 rfl) ?_
  refine lv_aload_n hx hb dL_law_362 rfl (lv_at hl 3 rfl) ?_
  refine lv_iload_n hx hb dL_law_363 rfl (lv_at hl 0 rfl) ?_
  refine lv_iconst (v := (1 : Int32)) hx hb dL_law_364 (by decide) ?_
  refine lv_iadd hx hb dL_law_365 ?_
  refine va_sld hx hb hX hbl hbA hS h1 dL_law_366 ?_
  refine lv_aload_n hx hb dL_law_367 rfl (lv_at hl 3 rfl) ?_
  refine lv_iload_n hx hb dL_law_368 rfl (lv_at hl 0 rfl) ?_
  refine lv_iconst (v := (2 : Int32)) hx hb dL_law_369 (by decide) ?_
  refine lv_iadd hx hb dL_law_370 ?_
  refine va_sld hx hb hX hbl hbA hS h2 dL_law_371 ?_
  refine lv_aload_n hx hb dL_law_372 rfl (lv_at hl 3 rfl) ?_
  refine lv_iload_n hx hb dL_law_373 rfl (lv_at hl 0 rfl) ?_
  refine lv_iconst (v := (3 : Int32)) hx hb dL_law_374 (by decide) ?_
  refine lv_iadd hx hb dL_law_375 ?_
  refine va_sld hx hb hX hbl hbA hS h3 dL_law_376 ?_
  obtain ⟨r, n1, m1, hf3, hf4, hR1⟩ := op_set hR (xs (x3 + (1 : Int32)).toNatClampNeg) (xs (x3 + (2 : Int32)).toNatClampNeg) (xs (x3 + (3 : Int32)).toNatClampNeg)
  refine cV (X := []) (Y := wX4 E bm m') (w := (wX3 E a n ++ wX4 E bm m')) (w' := (wX3 E a n1 ++ wX4 E bm m')) (q0 := 0) lk_L_36 hx hb hml hown hE hA (c_X3_set l E a n (xs (x3 + (1 : Int32)).toNatClampNeg) (xs (x3 + (2 : Int32)).toNatClampNeg) (xs (x3 + (3 : Int32)).toNatClampNeg) r n1 hf3) rfl rfl hP hD hS rfl rfl ⟨rfl, rfl, Nat.le_of_ble_eq_true rfl, Nat.le_of_ble_eq_true rfl⟩ hl.1 (As := [.int (xs (x3 + (1 : Int32)).toNatClampNeg), .int (xs (x3 + (2 : Int32)).toNatClampNeg), .int (xs (x3 + (3 : Int32)).toNatClampNeg)]) (rest := []) rfl rfl (Nat.le_of_ble_eq_true rfl) ⟨Nat.le_refl _, Nat.le_refl _⟩ dL_law_377 (fun H locs hP hD hS => ?_)
  refine W.eq (g2 := F0 m 380 ls [.int r]) rfl ?_
  refine lv_aload_n hx hb dL_law_380 rfl (lv_at hl 1 rfl) ?_
  refine lv_aload_n hx hb dL_law_381 rfl (lv_at hl 3 rfl) ?_
  refine lv_iload_n hx hb dL_law_382 rfl (lv_at hl 0 rfl) ?_
  refine lv_iconst (v := (1 : Int32)) hx hb dL_law_383 (by decide) ?_
  refine lv_iadd hx hb dL_law_384 ?_
  refine va_sld hx hb hX hbl hbA hS h1 dL_law_385 ?_
  refine lv_aload_n hx hb dL_law_386 rfl (lv_at hl 3 rfl) ?_
  refine lv_iload_n hx hb dL_law_387 rfl (lv_at hl 0 rfl) ?_
  refine lv_iconst (v := (2 : Int32)) hx hb dL_law_388 (by decide) ?_
  refine lv_iadd hx hb dL_law_389 ?_
  refine va_sld hx hb hX hbl hbA hS h2 dL_law_390 ?_
  refine lv_aload_n hx hb dL_law_391 rfl (lv_at hl 3 rfl) ?_
  refine lv_iload_n hx hb dL_law_392 rfl (lv_at hl 0 rfl) ?_
  refine lv_iconst (v := (3 : Int32)) hx hb dL_law_393 (by decide) ?_
  refine lv_iadd hx hb dL_law_394 ?_
  refine va_sld hx hb hX hbl hbA hS h3 dL_law_395 ?_
  refine cV (X := wX3 E a n1) (Y := []) (w := (wX3 E a n1 ++ wX4 E bm m')) (w' := (wX3 E a n1 ++ wX4 E bm m1)) (q0 := 0) lk_L_39 hx hb hml hown hE hA (c_X4_set l E bm m' (xs (x3 + (1 : Int32)).toNatClampNeg) (xs (x3 + (2 : Int32)).toNatClampNeg) (xs (x3 + (3 : Int32)).toNatClampNeg) r m1 hf4) rfl rfl hP hD hS rfl rfl ⟨rfl, rfl, Nat.le_of_ble_eq_true rfl, Nat.le_of_ble_eq_true rfl⟩ hl.1 (As := [.int (xs (x3 + (1 : Int32)).toNatClampNeg), .int (xs (x3 + (2 : Int32)).toNatClampNeg), .int (xs (x3 + (3 : Int32)).toNatClampNeg)]) (rest := [.int r]) rfl rfl (Nat.le_of_ble_eq_true rfl) ⟨Nat.le_refl _, Nat.le_refl _⟩ dL_law_396 (fun H locs hP hD hS => ?_)
  refine W.eq (g2 := F0 m 399 ls [.int r, .int r]) rfl ?_
  refine lv_icmp_eq (tgt := 1348) hx hb dL_law_399 (by decide) (fun _ => ?_) (fun c9 => absurd rfl c9)
  exact next n1 m1 H locs ls hR1 hP hD hS hl
set_option maxHeartbeats 4000000 in
set_option maxRecDepth 100000 in
theorem law_turn {p : Program} {l : Launch} {e : Env} {s : State} {m : MethodId} {below : List Frame} {meth : Method} {c : Code} {b L : Nat} {xs : Nat → Int32} {E : EV} {a : Nat → Nat → Nat} {bm : Nat → Nat} {x3 : Int32} (C0 : lw_At p s m meth c b L xs) (hE : Ev E (fun q : Nat => s.heap.size ≤ q) s) (h1 : vp_in (x3 + (1 : Int32)) L) (h2 : vp_in (x3 + (2 : Int32)) L) (h3 : vp_in (x3 + (3 : Int32)) L) (h4 : vp_in (x3 + (4 : Int32)) L) (h5 : vp_in (x3 + (5 : Int32)) L)
    (next : ∀ (n : NS) (m' : MS) (H : Heap) (locs : List Loc) (ls : Array Slot), Rel n m' → va_P E.1 vwCl (wX3 E a n ++ wX4 E bm m') H → va_D (fun q : Nat => s.heap.size ≤ q) (wX3 E a n ++ wX4 E bm m') → va_S (fun q : Nat => s.heap.size ≤ q) s.heap H locs → lv_has ls 4 [(3, .int x3), (2, .ref (bm 0)), (1, .ref (a 8 0)), (0, .ref b)] → W p l e room_1 s m #[Value.ref b] below meth c H locs 600000 7302250 (lw_Z below #[Value.ref b] s) (F0 m 1348 ls []))
    (n : NS) (m' : MS) (H : Heap) (locs : List Loc) (ls : Array Slot) (hR : Rel n m') (hP : va_P E.1 vwCl (wX3 E a n ++ wX4 E bm m') H) (hD : va_D (fun q : Nat => s.heap.size ≤ q) (wX3 E a n ++ wX4 E bm m')) (hS : va_S (fun q : Nat => s.heap.size ≤ q) s.heap H locs) (hl : lv_has ls 4 [(3, .int x3), (2, .ref (bm 0)), (1, .ref (a 8 0)), (0, .ref b)]) : W p l e room_1 s m #[Value.ref b] below meth c H locs 600000 7302250 (lw_Z below #[Value.ref b] s) (F0 m 404 ls []) := by
  obtain ⟨hx, hb, hr, hml, hown, hts, hX, hbl, hlocks, hgv⟩ := C0
  have hA : ∀ q : Nat, s.heap.size ≤ q → (fun q : Nat => s.heap.size ≤ q) q := fun _ h => h
  have hbA : ¬ (fun q : Nat => s.heap.size ≤ q) b := Nat.not_le.mpr hbl
  refine lv_aload_n hx hb dL_law_404 rfl (lv_at hl 2 rfl) ?_
  refine lv_aload_n hx hb dL_law_405 rfl (lv_at hl 3 rfl) ?_
  refine lv_iload_n hx hb dL_law_406 rfl (lv_at hl 0 rfl) ?_
  refine lv_iconst (v := (1 : Int32)) hx hb dL_law_407 (by decide) ?_
  refine lv_iadd hx hb dL_law_408 ?_
  refine va_sld hx hb hX hbl hbA hS h1 dL_law_409 ?_
  refine lv_aload_n hx hb dL_law_410 rfl (lv_at hl 3 rfl) ?_
  refine lv_iload_n hx hb dL_law_411 rfl (lv_at hl 0 rfl) ?_
  refine lv_iconst (v := (2 : Int32)) hx hb dL_law_412 (by decide) ?_
  refine lv_iadd hx hb dL_law_413 ?_
  refine va_sld hx hb hX hbl hbA hS h2 dL_law_414 ?_
  obtain ⟨r, n1, m1, hf3, hf4, hR1⟩ := op_turn hR (xs (x3 + (1 : Int32)).toNatClampNeg) (xs (x3 + (2 : Int32)).toNatClampNeg)
  refine cV (X := []) (Y := wX4 E bm m') (w := (wX3 E a n ++ wX4 E bm m')) (w' := (wX3 E a n1 ++ wX4 E bm m')) (q0 := 0) lk_L_40 hx hb hml hown hE hA (c_X3_turn l E a n (xs (x3 + (1 : Int32)).toNatClampNeg) (xs (x3 + (2 : Int32)).toNatClampNeg) r n1 hf3) rfl rfl hP hD hS rfl rfl ⟨rfl, rfl, Nat.le_of_ble_eq_true rfl, Nat.le_of_ble_eq_true rfl⟩ hl.1 (As := [.int (xs (x3 + (1 : Int32)).toNatClampNeg), .int (xs (x3 + (2 : Int32)).toNatClampNeg)]) (rest := []) rfl rfl (Nat.le_of_ble_eq_true rfl) ⟨Nat.le_refl _, Nat.le_refl _⟩ dL_law_415 (fun H locs hP hD hS => ?_)
  refine W.eq (g2 := F0 m 418 ls [.int r]) rfl ?_
  refine lv_aload_n hx hb dL_law_418 rfl (lv_at hl 1 rfl) ?_
  refine lv_aload_n hx hb dL_law_419 rfl (lv_at hl 3 rfl) ?_
  refine lv_iload_n hx hb dL_law_420 rfl (lv_at hl 0 rfl) ?_
  refine lv_iconst (v := (1 : Int32)) hx hb dL_law_421 (by decide) ?_
  refine lv_iadd hx hb dL_law_422 ?_
  refine va_sld hx hb hX hbl hbA hS h1 dL_law_423 ?_
  refine lv_aload_n hx hb dL_law_424 rfl (lv_at hl 3 rfl) ?_
  refine lv_iload_n hx hb dL_law_425 rfl (lv_at hl 0 rfl) ?_
  refine lv_iconst (v := (2 : Int32)) hx hb dL_law_426 (by decide) ?_
  refine lv_iadd hx hb dL_law_427 ?_
  refine va_sld hx hb hX hbl hbA hS h2 dL_law_428 ?_
  refine cV (X := wX3 E a n1) (Y := []) (w := (wX3 E a n1 ++ wX4 E bm m')) (w' := (wX3 E a n1 ++ wX4 E bm m1)) (q0 := 0) lk_L_43 hx hb hml hown hE hA (c_X4_turn l E bm m' (xs (x3 + (1 : Int32)).toNatClampNeg) (xs (x3 + (2 : Int32)).toNatClampNeg) r m1 hf4) rfl rfl hP hD hS rfl rfl ⟨rfl, rfl, Nat.le_of_ble_eq_true rfl, Nat.le_of_ble_eq_true rfl⟩ hl.1 (As := [.int (xs (x3 + (1 : Int32)).toNatClampNeg), .int (xs (x3 + (2 : Int32)).toNatClampNeg)]) (rest := [.int r]) rfl rfl (Nat.le_of_ble_eq_true rfl) ⟨Nat.le_refl _, Nat.le_refl _⟩ dL_law_429 (fun H locs hP hD hS => ?_)
  refine W.eq (g2 := F0 m 432 ls [.int r, .int r]) rfl ?_
  refine lv_icmp_eq (tgt := 1348) hx hb dL_law_432 (by decide) (fun _ => ?_) (fun c9 => absurd rfl c9)
  exact next n1 m1 H locs ls hR1 hP hD hS hl
set_option maxHeartbeats 4000000 in
set_option maxRecDepth 100000 in
theorem law_as {p : Program} {l : Launch} {e : Env} {s : State} {m : MethodId} {below : List Frame} {meth : Method} {c : Code} {b L : Nat} {xs : Nat → Int32} {E : EV} {a : Nat → Nat → Nat} {bm : Nat → Nat} {x3 : Int32} (C0 : lw_At p s m meth c b L xs) (hE : Ev E (fun q : Nat => s.heap.size ≤ q) s) (h1 : vp_in (x3 + (1 : Int32)) L) (h2 : vp_in (x3 + (2 : Int32)) L) (h3 : vp_in (x3 + (3 : Int32)) L) (h4 : vp_in (x3 + (4 : Int32)) L) (h5 : vp_in (x3 + (5 : Int32)) L)
    (next : ∀ (n : NS) (m' : MS) (H : Heap) (locs : List Loc) (ls : Array Slot), Rel n m' → va_P E.1 vwCl (wX3 E a n ++ wX4 E bm m') H → va_D (fun q : Nat => s.heap.size ≤ q) (wX3 E a n ++ wX4 E bm m') → va_S (fun q : Nat => s.heap.size ≤ q) s.heap H locs → lv_has ls 4 [(3, .int x3), (2, .ref (bm 0)), (1, .ref (a 8 0)), (0, .ref b)] → W p l e room_1 s m #[Value.ref b] below meth c H locs 600000 7302250 (lw_Z below #[Value.ref b] s) (F0 m 1348 ls []))
    (n : NS) (m' : MS) (H : Heap) (locs : List Loc) (ls : Array Slot) (hR : Rel n m') (hP : va_P E.1 vwCl (wX3 E a n ++ wX4 E bm m') H) (hD : va_D (fun q : Nat => s.heap.size ≤ q) (wX3 E a n ++ wX4 E bm m')) (hS : va_S (fun q : Nat => s.heap.size ≤ q) s.heap H locs) (hl : lv_has ls 4 [(3, .int x3), (2, .ref (bm 0)), (1, .ref (a 8 0)), (0, .ref b)]) : W p l e room_1 s m #[Value.ref b] below meth c H locs 600000 7302250 (lw_Z below #[Value.ref b] s) (F0 m 437 ls []) := by
  obtain ⟨hx, hb, hr, hml, hown, hts, hX, hbl, hlocks, hgv⟩ := C0
  have hA : ∀ q : Nat, s.heap.size ≤ q → (fun q : Nat => s.heap.size ≤ q) q := fun _ h => h
  have hbA : ¬ (fun q : Nat => s.heap.size ≤ q) b := Nat.not_le.mpr hbl
  refine lv_aload_n hx hb dL_law_437 rfl (lv_at hl 2 rfl) ?_
  refine lv_aload_n hx hb dL_law_438 rfl (lv_at hl 3 rfl) ?_
  refine lv_iload_n hx hb dL_law_439 rfl (lv_at hl 0 rfl) ?_
  refine lv_iconst (v := (1 : Int32)) hx hb dL_law_440 (by decide) ?_
  refine lv_iadd hx hb dL_law_441 ?_
  refine va_sld hx hb hX hbl hbA hS h1 dL_law_442 ?_
  refine lv_aload_n hx hb dL_law_443 rfl (lv_at hl 3 rfl) ?_
  refine lv_iload_n hx hb dL_law_444 rfl (lv_at hl 0 rfl) ?_
  refine lv_iconst (v := (2 : Int32)) hx hb dL_law_445 (by decide) ?_
  refine lv_iadd hx hb dL_law_446 ?_
  refine va_sld hx hb hX hbl hbA hS h2 dL_law_447 ?_
  obtain ⟨r, n1, m1, hf3, hf4, hR1⟩ := op_as hR (xs (x3 + (1 : Int32)).toNatClampNeg) (xs (x3 + (2 : Int32)).toNatClampNeg)
  refine cV (X := []) (Y := wX4 E bm m') (w := (wX3 E a n ++ wX4 E bm m')) (w' := (wX3 E a n1 ++ wX4 E bm m')) (q0 := 0) lk_L_44 hx hb hml hown hE hA (c_X3_as l E a n (xs (x3 + (1 : Int32)).toNatClampNeg) (xs (x3 + (2 : Int32)).toNatClampNeg) r n1 hf3) rfl rfl hP hD hS rfl rfl ⟨rfl, rfl, Nat.le_of_ble_eq_true rfl, Nat.le_of_ble_eq_true rfl⟩ hl.1 (As := [.int (xs (x3 + (1 : Int32)).toNatClampNeg), .int (xs (x3 + (2 : Int32)).toNatClampNeg)]) (rest := []) rfl rfl (Nat.le_of_ble_eq_true rfl) ⟨Nat.le_refl _, Nat.le_refl _⟩ dL_law_448 (fun H locs hP hD hS => ?_)
  refine W.eq (g2 := F0 m 451 ls [.int r]) rfl ?_
  refine lv_aload_n hx hb dL_law_451 rfl (lv_at hl 1 rfl) ?_
  refine lv_aload_n hx hb dL_law_452 rfl (lv_at hl 3 rfl) ?_
  refine lv_iload_n hx hb dL_law_453 rfl (lv_at hl 0 rfl) ?_
  refine lv_iconst (v := (1 : Int32)) hx hb dL_law_454 (by decide) ?_
  refine lv_iadd hx hb dL_law_455 ?_
  refine va_sld hx hb hX hbl hbA hS h1 dL_law_456 ?_
  refine lv_aload_n hx hb dL_law_457 rfl (lv_at hl 3 rfl) ?_
  refine lv_iload_n hx hb dL_law_458 rfl (lv_at hl 0 rfl) ?_
  refine lv_iconst (v := (2 : Int32)) hx hb dL_law_459 (by decide) ?_
  refine lv_iadd hx hb dL_law_460 ?_
  refine va_sld hx hb hX hbl hbA hS h2 dL_law_461 ?_
  refine cV (X := wX3 E a n1) (Y := []) (w := (wX3 E a n1 ++ wX4 E bm m')) (w' := (wX3 E a n1 ++ wX4 E bm m1)) (q0 := 0) lk_L_47 hx hb hml hown hE hA (c_X4_as l E bm m' (xs (x3 + (1 : Int32)).toNatClampNeg) (xs (x3 + (2 : Int32)).toNatClampNeg) r m1 hf4) rfl rfl hP hD hS rfl rfl ⟨rfl, rfl, Nat.le_of_ble_eq_true rfl, Nat.le_of_ble_eq_true rfl⟩ hl.1 (As := [.int (xs (x3 + (1 : Int32)).toNatClampNeg), .int (xs (x3 + (2 : Int32)).toNatClampNeg)]) (rest := [.int r]) rfl rfl (Nat.le_of_ble_eq_true rfl) ⟨Nat.le_refl _, Nat.le_refl _⟩ dL_law_462 (fun H locs hP hD hS => ?_)
  refine W.eq (g2 := F0 m 465 ls [.int r, .int r]) rfl ?_
  refine lv_icmp_eq (tgt := 1348) hx hb dL_law_465 (by decide) (fun _ => ?_) (fun c9 => absurd rfl c9)
  exact next n1 m1 H locs ls hR1 hP hD hS hl
set_option maxHeartbeats 4000000 in
set_option maxRecDepth 100000 in
theorem law_swap {p : Program} {l : Launch} {e : Env} {s : State} {m : MethodId} {below : List Frame} {meth : Method} {c : Code} {b L : Nat} {xs : Nat → Int32} {E : EV} {a : Nat → Nat → Nat} {bm : Nat → Nat} {x3 : Int32} (C0 : lw_At p s m meth c b L xs) (hE : Ev E (fun q : Nat => s.heap.size ≤ q) s) (h1 : vp_in (x3 + (1 : Int32)) L) (h2 : vp_in (x3 + (2 : Int32)) L) (h3 : vp_in (x3 + (3 : Int32)) L) (h4 : vp_in (x3 + (4 : Int32)) L) (h5 : vp_in (x3 + (5 : Int32)) L)
    (next : ∀ (n : NS) (m' : MS) (H : Heap) (locs : List Loc) (ls : Array Slot), Rel n m' → va_P E.1 vwCl (wX3 E a n ++ wX4 E bm m') H → va_D (fun q : Nat => s.heap.size ≤ q) (wX3 E a n ++ wX4 E bm m') → va_S (fun q : Nat => s.heap.size ≤ q) s.heap H locs → lv_has ls 4 [(3, .int x3), (2, .ref (bm 0)), (1, .ref (a 8 0)), (0, .ref b)] → W p l e room_1 s m #[Value.ref b] below meth c H locs 600000 7302250 (lw_Z below #[Value.ref b] s) (F0 m 1348 ls []))
    (n : NS) (m' : MS) (H : Heap) (locs : List Loc) (ls : Array Slot) (hR : Rel n m') (hP : va_P E.1 vwCl (wX3 E a n ++ wX4 E bm m') H) (hD : va_D (fun q : Nat => s.heap.size ≤ q) (wX3 E a n ++ wX4 E bm m')) (hS : va_S (fun q : Nat => s.heap.size ≤ q) s.heap H locs) (hl : lv_has ls 4 [(3, .int x3), (2, .ref (bm 0)), (1, .ref (a 8 0)), (0, .ref b)]) : W p l e room_1 s m #[Value.ref b] below meth c H locs 600000 7302250 (lw_Z below #[Value.ref b] s) (F0 m 470 ls []) := by
  obtain ⟨hx, hb, hr, hml, hown, hts, hX, hbl, hlocks, hgv⟩ := C0
  have hA : ∀ q : Nat, s.heap.size ≤ q → (fun q : Nat => s.heap.size ≤ q) q := fun _ h => h
  have hbA : ¬ (fun q : Nat => s.heap.size ≤ q) b := Nat.not_le.mpr hbl
  refine lv_aload_n hx hb dL_law_470 rfl (lv_at hl 2 rfl) ?_
  refine lv_aload_n hx hb dL_law_471 rfl (lv_at hl 3 rfl) ?_
  refine lv_iload_n hx hb dL_law_472 rfl (lv_at hl 0 rfl) ?_
  refine lv_iconst (v := (1 : Int32)) hx hb dL_law_473 (by decide) ?_
  refine lv_iadd hx hb dL_law_474 ?_
  refine va_sld hx hb hX hbl hbA hS h1 dL_law_475 ?_
  refine lv_aload_n hx hb dL_law_476 rfl (lv_at hl 3 rfl) ?_
  refine lv_iload_n hx hb dL_law_477 rfl (lv_at hl 0 rfl) ?_
  refine lv_iconst (v := (2 : Int32)) hx hb dL_law_478 (by decide) ?_
  refine lv_iadd hx hb dL_law_479 ?_
  refine va_sld hx hb hX hbl hbA hS h2 dL_law_480 ?_
  obtain ⟨r, n1, m1, hf3, hf4, hR1⟩ := op_swap hR (xs (x3 + (1 : Int32)).toNatClampNeg) (xs (x3 + (2 : Int32)).toNatClampNeg)
  refine cV (X := []) (Y := wX4 E bm m') (w := (wX3 E a n ++ wX4 E bm m')) (w' := (wX3 E a n1 ++ wX4 E bm m')) (q0 := 0) lk_L_48 hx hb hml hown hE hA (c_X3_swap l E a n (xs (x3 + (1 : Int32)).toNatClampNeg) (xs (x3 + (2 : Int32)).toNatClampNeg) r n1 hf3) rfl rfl hP hD hS rfl rfl ⟨rfl, rfl, Nat.le_of_ble_eq_true rfl, Nat.le_of_ble_eq_true rfl⟩ hl.1 (As := [.int (xs (x3 + (1 : Int32)).toNatClampNeg), .int (xs (x3 + (2 : Int32)).toNatClampNeg)]) (rest := []) rfl rfl (Nat.le_of_ble_eq_true rfl) ⟨Nat.le_refl _, Nat.le_refl _⟩ dL_law_481 (fun H locs hP hD hS => ?_)
  refine W.eq (g2 := F0 m 484 ls [.int r]) rfl ?_
  refine lv_aload_n hx hb dL_law_484 rfl (lv_at hl 1 rfl) ?_
  refine lv_aload_n hx hb dL_law_485 rfl (lv_at hl 3 rfl) ?_
  refine lv_iload_n hx hb dL_law_486 rfl (lv_at hl 0 rfl) ?_
  refine lv_iconst (v := (1 : Int32)) hx hb dL_law_487 (by decide) ?_
  refine lv_iadd hx hb dL_law_488 ?_
  refine va_sld hx hb hX hbl hbA hS h1 dL_law_489 ?_
  refine lv_aload_n hx hb dL_law_490 rfl (lv_at hl 3 rfl) ?_
  refine lv_iload_n hx hb dL_law_491 rfl (lv_at hl 0 rfl) ?_
  refine lv_iconst (v := (2 : Int32)) hx hb dL_law_492 (by decide) ?_
  refine lv_iadd hx hb dL_law_493 ?_
  refine va_sld hx hb hX hbl hbA hS h2 dL_law_494 ?_
  refine cV (X := wX3 E a n1) (Y := []) (w := (wX3 E a n1 ++ wX4 E bm m')) (w' := (wX3 E a n1 ++ wX4 E bm m1)) (q0 := 0) lk_L_51 hx hb hml hown hE hA (c_X4_swap l E bm m' (xs (x3 + (1 : Int32)).toNatClampNeg) (xs (x3 + (2 : Int32)).toNatClampNeg) r m1 hf4) rfl rfl hP hD hS rfl rfl ⟨rfl, rfl, Nat.le_of_ble_eq_true rfl, Nat.le_of_ble_eq_true rfl⟩ hl.1 (As := [.int (xs (x3 + (1 : Int32)).toNatClampNeg), .int (xs (x3 + (2 : Int32)).toNatClampNeg)]) (rest := [.int r]) rfl rfl (Nat.le_of_ble_eq_true rfl) ⟨Nat.le_refl _, Nat.le_refl _⟩ dL_law_495 (fun H locs hP hD hS => ?_)
  refine W.eq (g2 := F0 m 498 ls [.int r, .int r]) rfl ?_
  refine lv_icmp_eq (tgt := 1348) hx hb dL_law_498 (by decide) (fun _ => ?_) (fun c9 => absurd rfl c9)
  exact next n1 m1 H locs ls hR1 hP hD hS hl
set_option maxHeartbeats 4000000 in
set_option maxRecDepth 100000 in
theorem law_moments {p : Program} {l : Launch} {e : Env} {s : State} {m : MethodId} {below : List Frame} {meth : Method} {c : Code} {b L : Nat} {xs : Nat → Int32} {E : EV} {a : Nat → Nat → Nat} {bm : Nat → Nat} {x3 : Int32} (C0 : lw_At p s m meth c b L xs) (hE : Ev E (fun q : Nat => s.heap.size ≤ q) s) (h1 : vp_in (x3 + (1 : Int32)) L) (h2 : vp_in (x3 + (2 : Int32)) L) (h3 : vp_in (x3 + (3 : Int32)) L) (h4 : vp_in (x3 + (4 : Int32)) L) (h5 : vp_in (x3 + (5 : Int32)) L)
    (next : ∀ (n : NS) (m' : MS) (H : Heap) (locs : List Loc) (ls : Array Slot), Rel n m' → va_P E.1 vwCl (wX3 E a n ++ wX4 E bm m') H → va_D (fun q : Nat => s.heap.size ≤ q) (wX3 E a n ++ wX4 E bm m') → va_S (fun q : Nat => s.heap.size ≤ q) s.heap H locs → lv_has ls 4 [(3, .int x3), (2, .ref (bm 0)), (1, .ref (a 8 0)), (0, .ref b)] → W p l e room_1 s m #[Value.ref b] below meth c H locs 600000 7302250 (lw_Z below #[Value.ref b] s) (F0 m 1348 ls []))
    (n : NS) (m' : MS) (H : Heap) (locs : List Loc) (ls : Array Slot) (hR : Rel n m') (hP : va_P E.1 vwCl (wX3 E a n ++ wX4 E bm m') H) (hD : va_D (fun q : Nat => s.heap.size ≤ q) (wX3 E a n ++ wX4 E bm m')) (hS : va_S (fun q : Nat => s.heap.size ≤ q) s.heap H locs) (hl : lv_has ls 4 [(3, .int x3), (2, .ref (bm 0)), (1, .ref (a 8 0)), (0, .ref b)]) : W p l e room_1 s m #[Value.ref b] below meth c H locs 600000 7302250 (lw_Z below #[Value.ref b] s) (F0 m 503 ls []) := by
  obtain ⟨hx, hb, hr, hml, hown, hts, hX, hbl, hlocks, hgv⟩ := C0
  have hA : ∀ q : Nat, s.heap.size ≤ q → (fun q : Nat => s.heap.size ≤ q) q := fun _ h => h
  have hbA : ¬ (fun q : Nat => s.heap.size ≤ q) b := Nat.not_le.mpr hbl
  refine lv_aload_n hx hb dL_law_503 rfl (lv_at hl 2 rfl) ?_
  refine lv_aload_n hx hb dL_law_504 rfl (lv_at hl 3 rfl) ?_
  refine lv_iload_n hx hb dL_law_505 rfl (lv_at hl 0 rfl) ?_
  refine lv_iconst (v := (1 : Int32)) hx hb dL_law_506 (by decide) ?_
  refine lv_iadd hx hb dL_law_507 ?_
  refine va_sld hx hb hX hbl hbA hS h1 dL_law_508 ?_
  obtain ⟨r, n1, m1, hf3, hf4, hR1⟩ := op_moments hR (xs (x3 + (1 : Int32)).toNatClampNeg)
  refine cV (X := []) (Y := wX4 E bm m') (w := (wX3 E a n ++ wX4 E bm m')) (w' := (wX3 E a n1 ++ wX4 E bm m')) (q0 := 0) lk_L_52 hx hb hml hown hE hA (c_X3_moments l E a n (xs (x3 + (1 : Int32)).toNatClampNeg) r n1 hf3) rfl rfl hP hD hS rfl rfl ⟨rfl, rfl, Nat.le_of_ble_eq_true rfl, Nat.le_of_ble_eq_true rfl⟩ hl.1 (As := [.int (xs (x3 + (1 : Int32)).toNatClampNeg)]) (rest := []) rfl rfl (Nat.le_of_ble_eq_true rfl) ⟨Nat.le_refl _, Nat.le_refl _⟩ dL_law_509 (fun H locs hP hD hS => ?_)
  refine W.eq (g2 := F0 m 512 ls [.int r]) rfl ?_
  refine lv_aload_n hx hb dL_law_512 rfl (lv_at hl 1 rfl) ?_
  refine lv_aload_n hx hb dL_law_513 rfl (lv_at hl 3 rfl) ?_
  refine lv_iload_n hx hb dL_law_514 rfl (lv_at hl 0 rfl) ?_
  refine lv_iconst (v := (1 : Int32)) hx hb dL_law_515 (by decide) ?_
  refine lv_iadd hx hb dL_law_516 ?_
  refine va_sld hx hb hX hbl hbA hS h1 dL_law_517 ?_
  refine cV (X := wX3 E a n1) (Y := []) (w := (wX3 E a n1 ++ wX4 E bm m')) (w' := (wX3 E a n1 ++ wX4 E bm m1)) (q0 := 0) lk_L_55 hx hb hml hown hE hA (c_X4_moments l E bm m' (xs (x3 + (1 : Int32)).toNatClampNeg) r m1 hf4) rfl rfl hP hD hS rfl rfl ⟨rfl, rfl, Nat.le_of_ble_eq_true rfl, Nat.le_of_ble_eq_true rfl⟩ hl.1 (As := [.int (xs (x3 + (1 : Int32)).toNatClampNeg)]) (rest := [.int r]) rfl rfl (Nat.le_of_ble_eq_true rfl) ⟨Nat.le_refl _, Nat.le_refl _⟩ dL_law_518 (fun H locs hP hD hS => ?_)
  refine W.eq (g2 := F0 m 521 ls [.int r, .int r]) rfl ?_
  refine lv_icmp_eq (tgt := 1348) hx hb dL_law_521 (by decide) (fun _ => ?_) (fun c9 => absurd rfl c9)
  exact next n1 m1 H locs ls hR1 hP hD hS hl
set_option maxHeartbeats 4000000 in
set_option maxRecDepth 100000 in
theorem law_note {p : Program} {l : Launch} {e : Env} {s : State} {m : MethodId} {below : List Frame} {meth : Method} {c : Code} {b L : Nat} {xs : Nat → Int32} {E : EV} {a : Nat → Nat → Nat} {bm : Nat → Nat} {x3 : Int32} (C0 : lw_At p s m meth c b L xs) (hE : Ev E (fun q : Nat => s.heap.size ≤ q) s) (h1 : vp_in (x3 + (1 : Int32)) L) (h2 : vp_in (x3 + (2 : Int32)) L) (h3 : vp_in (x3 + (3 : Int32)) L) (h4 : vp_in (x3 + (4 : Int32)) L) (h5 : vp_in (x3 + (5 : Int32)) L)
    (next : ∀ (n : NS) (m' : MS) (H : Heap) (locs : List Loc) (ls : Array Slot), Rel n m' → va_P E.1 vwCl (wX3 E a n ++ wX4 E bm m') H → va_D (fun q : Nat => s.heap.size ≤ q) (wX3 E a n ++ wX4 E bm m') → va_S (fun q : Nat => s.heap.size ≤ q) s.heap H locs → lv_has ls 4 [(3, .int x3), (2, .ref (bm 0)), (1, .ref (a 8 0)), (0, .ref b)] → W p l e room_1 s m #[Value.ref b] below meth c H locs 600000 7302250 (lw_Z below #[Value.ref b] s) (F0 m 1348 ls []))
    (n : NS) (m' : MS) (H : Heap) (locs : List Loc) (ls : Array Slot) (hR : Rel n m') (hP : va_P E.1 vwCl (wX3 E a n ++ wX4 E bm m') H) (hD : va_D (fun q : Nat => s.heap.size ≤ q) (wX3 E a n ++ wX4 E bm m')) (hS : va_S (fun q : Nat => s.heap.size ≤ q) s.heap H locs) (hl : lv_has ls 4 [(3, .int x3), (2, .ref (bm 0)), (1, .ref (a 8 0)), (0, .ref b)]) : W p l e room_1 s m #[Value.ref b] below meth c H locs 600000 7302250 (lw_Z below #[Value.ref b] s) (F0 m 526 ls []) := by
  obtain ⟨hx, hb, hr, hml, hown, hts, hX, hbl, hlocks, hgv⟩ := C0
  have hA : ∀ q : Nat, s.heap.size ≤ q → (fun q : Nat => s.heap.size ≤ q) q := fun _ h => h
  have hbA : ¬ (fun q : Nat => s.heap.size ≤ q) b := Nat.not_le.mpr hbl
  refine lv_aload_n hx hb dL_law_526 rfl (lv_at hl 2 rfl) ?_
  refine lv_aload_n hx hb dL_law_527 rfl (lv_at hl 3 rfl) ?_
  refine lv_iload_n hx hb dL_law_528 rfl (lv_at hl 0 rfl) ?_
  refine lv_iconst (v := (1 : Int32)) hx hb dL_law_529 (by decide) ?_
  refine lv_iadd hx hb dL_law_530 ?_
  refine va_sld hx hb hX hbl hbA hS h1 dL_law_531 ?_
  refine lv_aload_n hx hb dL_law_532 rfl (lv_at hl 3 rfl) ?_
  refine lv_iload_n hx hb dL_law_533 rfl (lv_at hl 0 rfl) ?_
  refine lv_iconst (v := (2 : Int32)) hx hb dL_law_534 (by decide) ?_
  refine lv_iadd hx hb dL_law_535 ?_
  refine va_sld hx hb hX hbl hbA hS h2 dL_law_536 ?_
  obtain ⟨r, n1, m1, hf3, hf4, hR1⟩ := op_note hR (xs (x3 + (1 : Int32)).toNatClampNeg) (xs (x3 + (2 : Int32)).toNatClampNeg)
  refine cV (X := []) (Y := wX4 E bm m') (w := (wX3 E a n ++ wX4 E bm m')) (w' := (wX3 E a n1 ++ wX4 E bm m')) (q0 := 0) lk_L_56 hx hb hml hown hE hA (c_X3_note l E a n (xs (x3 + (1 : Int32)).toNatClampNeg) (xs (x3 + (2 : Int32)).toNatClampNeg) r n1 hf3) rfl rfl hP hD hS rfl rfl ⟨rfl, rfl, Nat.le_of_ble_eq_true rfl, Nat.le_of_ble_eq_true rfl⟩ hl.1 (As := [.int (xs (x3 + (1 : Int32)).toNatClampNeg), .int (xs (x3 + (2 : Int32)).toNatClampNeg)]) (rest := []) rfl rfl (Nat.le_of_ble_eq_true rfl) ⟨Nat.le_refl _, Nat.le_refl _⟩ dL_law_537 (fun H locs hP hD hS => ?_)
  refine W.eq (g2 := F0 m 540 ls [.int r]) rfl ?_
  refine lv_aload_n hx hb dL_law_540 rfl (lv_at hl 1 rfl) ?_
  refine lv_aload_n hx hb dL_law_541 rfl (lv_at hl 3 rfl) ?_
  refine lv_iload_n hx hb dL_law_542 rfl (lv_at hl 0 rfl) ?_
  refine lv_iconst (v := (1 : Int32)) hx hb dL_law_543 (by decide) ?_
  refine lv_iadd hx hb dL_law_544 ?_
  refine va_sld hx hb hX hbl hbA hS h1 dL_law_545 ?_
  refine lv_aload_n hx hb dL_law_546 rfl (lv_at hl 3 rfl) ?_
  refine lv_iload_n hx hb dL_law_547 rfl (lv_at hl 0 rfl) ?_
  refine lv_iconst (v := (2 : Int32)) hx hb dL_law_548 (by decide) ?_
  refine lv_iadd hx hb dL_law_549 ?_
  refine va_sld hx hb hX hbl hbA hS h2 dL_law_550 ?_
  refine cV (X := wX3 E a n1) (Y := []) (w := (wX3 E a n1 ++ wX4 E bm m')) (w' := (wX3 E a n1 ++ wX4 E bm m1)) (q0 := 0) lk_L_59 hx hb hml hown hE hA (c_X4_note l E bm m' (xs (x3 + (1 : Int32)).toNatClampNeg) (xs (x3 + (2 : Int32)).toNatClampNeg) r m1 hf4) rfl rfl hP hD hS rfl rfl ⟨rfl, rfl, Nat.le_of_ble_eq_true rfl, Nat.le_of_ble_eq_true rfl⟩ hl.1 (As := [.int (xs (x3 + (1 : Int32)).toNatClampNeg), .int (xs (x3 + (2 : Int32)).toNatClampNeg)]) (rest := [.int r]) rfl rfl (Nat.le_of_ble_eq_true rfl) ⟨Nat.le_refl _, Nat.le_refl _⟩ dL_law_551 (fun H locs hP hD hS => ?_)
  refine W.eq (g2 := F0 m 554 ls [.int r, .int r]) rfl ?_
  refine lv_icmp_eq (tgt := 1348) hx hb dL_law_554 (by decide) (fun _ => ?_) (fun c9 => absurd rfl c9)
  exact next n1 m1 H locs ls hR1 hP hD hS hl
set_option maxHeartbeats 4000000 in
set_option maxRecDepth 100000 in
theorem law_on {p : Program} {l : Launch} {e : Env} {s : State} {m : MethodId} {below : List Frame} {meth : Method} {c : Code} {b L : Nat} {xs : Nat → Int32} {E : EV} {a : Nat → Nat → Nat} {bm : Nat → Nat} {x3 : Int32} (C0 : lw_At p s m meth c b L xs) (hE : Ev E (fun q : Nat => s.heap.size ≤ q) s) (h1 : vp_in (x3 + (1 : Int32)) L) (h2 : vp_in (x3 + (2 : Int32)) L) (h3 : vp_in (x3 + (3 : Int32)) L) (h4 : vp_in (x3 + (4 : Int32)) L) (h5 : vp_in (x3 + (5 : Int32)) L)
    (next : ∀ (n : NS) (m' : MS) (H : Heap) (locs : List Loc) (ls : Array Slot), Rel n m' → va_P E.1 vwCl (wX3 E a n ++ wX4 E bm m') H → va_D (fun q : Nat => s.heap.size ≤ q) (wX3 E a n ++ wX4 E bm m') → va_S (fun q : Nat => s.heap.size ≤ q) s.heap H locs → lv_has ls 4 [(3, .int x3), (2, .ref (bm 0)), (1, .ref (a 8 0)), (0, .ref b)] → W p l e room_1 s m #[Value.ref b] below meth c H locs 600000 7302250 (lw_Z below #[Value.ref b] s) (F0 m 1348 ls []))
    (n : NS) (m' : MS) (H : Heap) (locs : List Loc) (ls : Array Slot) (hR : Rel n m') (hP : va_P E.1 vwCl (wX3 E a n ++ wX4 E bm m') H) (hD : va_D (fun q : Nat => s.heap.size ≤ q) (wX3 E a n ++ wX4 E bm m')) (hS : va_S (fun q : Nat => s.heap.size ≤ q) s.heap H locs) (hl : lv_has ls 4 [(3, .int x3), (2, .ref (bm 0)), (1, .ref (a 8 0)), (0, .ref b)]) : W p l e room_1 s m #[Value.ref b] below meth c H locs 600000 7302250 (lw_Z below #[Value.ref b] s) (F0 m 559 ls []) := by
  obtain ⟨hx, hb, hr, hml, hown, hts, hX, hbl, hlocks, hgv⟩ := C0
  have hA : ∀ q : Nat, s.heap.size ≤ q → (fun q : Nat => s.heap.size ≤ q) q := fun _ h => h
  have hbA : ¬ (fun q : Nat => s.heap.size ≤ q) b := Nat.not_le.mpr hbl
  refine lv_aload_n hx hb dL_law_559 rfl (lv_at hl 2 rfl) ?_
  refine lv_aload_n hx hb dL_law_560 rfl (lv_at hl 3 rfl) ?_
  refine lv_iload_n hx hb dL_law_561 rfl (lv_at hl 0 rfl) ?_
  refine lv_iconst (v := (1 : Int32)) hx hb dL_law_562 (by decide) ?_
  refine lv_iadd hx hb dL_law_563 ?_
  refine va_sld hx hb hX hbl hbA hS h1 dL_law_564 ?_
  refine lv_aload_n hx hb dL_law_565 rfl (lv_at hl 3 rfl) ?_
  refine lv_iload_n hx hb dL_law_566 rfl (lv_at hl 0 rfl) ?_
  refine lv_iconst (v := (2 : Int32)) hx hb dL_law_567 (by decide) ?_
  refine lv_iadd hx hb dL_law_568 ?_
  refine va_sld hx hb hX hbl hbA hS h2 dL_law_569 ?_
  refine lv_aload_n hx hb dL_law_570 rfl (lv_at hl 3 rfl) ?_
  refine lv_iload_n hx hb dL_law_571 rfl (lv_at hl 0 rfl) ?_
  refine lv_iconst (v := (3 : Int32)) hx hb dL_law_572 (by decide) ?_
  refine lv_iadd hx hb dL_law_573 ?_
  refine va_sld hx hb hX hbl hbA hS h3 dL_law_574 ?_
  obtain ⟨r, n1, m1, hf3, hf4, hR1⟩ := op_on hR (xs (x3 + (1 : Int32)).toNatClampNeg) (xs (x3 + (2 : Int32)).toNatClampNeg) (xs (x3 + (3 : Int32)).toNatClampNeg)
  refine cV (X := []) (Y := wX4 E bm m') (w := (wX3 E a n ++ wX4 E bm m')) (w' := (wX3 E a n1 ++ wX4 E bm m')) (q0 := 0) lk_L_60 hx hb hml hown hE hA (c_X3_on l E a n (xs (x3 + (1 : Int32)).toNatClampNeg) (xs (x3 + (2 : Int32)).toNatClampNeg) (xs (x3 + (3 : Int32)).toNatClampNeg) r n1 hf3) rfl rfl hP hD hS rfl rfl ⟨rfl, rfl, Nat.le_of_ble_eq_true rfl, Nat.le_of_ble_eq_true rfl⟩ hl.1 (As := [.int (xs (x3 + (1 : Int32)).toNatClampNeg), .int (xs (x3 + (2 : Int32)).toNatClampNeg), .int (xs (x3 + (3 : Int32)).toNatClampNeg)]) (rest := []) rfl rfl (Nat.le_of_ble_eq_true rfl) ⟨Nat.le_refl _, Nat.le_refl _⟩ dL_law_575 (fun H locs hP hD hS => ?_)
  refine W.eq (g2 := F0 m 578 ls [.int r]) rfl ?_
  refine lv_aload_n hx hb dL_law_578 rfl (lv_at hl 1 rfl) ?_
  refine lv_aload_n hx hb dL_law_579 rfl (lv_at hl 3 rfl) ?_
  refine lv_iload_n hx hb dL_law_580 rfl (lv_at hl 0 rfl) ?_
  refine lv_iconst (v := (1 : Int32)) hx hb dL_law_581 (by decide) ?_
  refine lv_iadd hx hb dL_law_582 ?_
  refine va_sld hx hb hX hbl hbA hS h1 dL_law_583 ?_
  refine lv_aload_n hx hb dL_law_584 rfl (lv_at hl 3 rfl) ?_
  refine lv_iload_n hx hb dL_law_585 rfl (lv_at hl 0 rfl) ?_
  refine lv_iconst (v := (2 : Int32)) hx hb dL_law_586 (by decide) ?_
  refine lv_iadd hx hb dL_law_587 ?_
  refine va_sld hx hb hX hbl hbA hS h2 dL_law_588 ?_
  refine lv_aload_n hx hb dL_law_589 rfl (lv_at hl 3 rfl) ?_
  refine lv_iload_n hx hb dL_law_590 rfl (lv_at hl 0 rfl) ?_
  refine lv_iconst (v := (3 : Int32)) hx hb dL_law_591 (by decide) ?_
  refine lv_iadd hx hb dL_law_592 ?_
  refine va_sld hx hb hX hbl hbA hS h3 dL_law_593 ?_
  refine cV (X := wX3 E a n1) (Y := []) (w := (wX3 E a n1 ++ wX4 E bm m')) (w' := (wX3 E a n1 ++ wX4 E bm m1)) (q0 := 0) lk_L_63 hx hb hml hown hE hA (c_X4_on l E bm m' (xs (x3 + (1 : Int32)).toNatClampNeg) (xs (x3 + (2 : Int32)).toNatClampNeg) (xs (x3 + (3 : Int32)).toNatClampNeg) r m1 hf4) rfl rfl hP hD hS rfl rfl ⟨rfl, rfl, Nat.le_of_ble_eq_true rfl, Nat.le_of_ble_eq_true rfl⟩ hl.1 (As := [.int (xs (x3 + (1 : Int32)).toNatClampNeg), .int (xs (x3 + (2 : Int32)).toNatClampNeg), .int (xs (x3 + (3 : Int32)).toNatClampNeg)]) (rest := [.int r]) rfl rfl (Nat.le_of_ble_eq_true rfl) ⟨Nat.le_refl _, Nat.le_refl _⟩ dL_law_594 (fun H locs hP hD hS => ?_)
  refine W.eq (g2 := F0 m 597 ls [.int r, .int r]) rfl ?_
  refine lv_icmp_eq (tgt := 1348) hx hb dL_law_597 (by decide) (fun _ => ?_) (fun c9 => absurd rfl c9)
  exact next n1 m1 H locs ls hR1 hP hD hS hl
set_option maxHeartbeats 4000000 in
set_option maxRecDepth 100000 in
theorem law_house {p : Program} {l : Launch} {e : Env} {s : State} {m : MethodId} {below : List Frame} {meth : Method} {c : Code} {b L : Nat} {xs : Nat → Int32} {E : EV} {a : Nat → Nat → Nat} {bm : Nat → Nat} {x3 : Int32} (C0 : lw_At p s m meth c b L xs) (hE : Ev E (fun q : Nat => s.heap.size ≤ q) s) (h1 : vp_in (x3 + (1 : Int32)) L) (h2 : vp_in (x3 + (2 : Int32)) L) (h3 : vp_in (x3 + (3 : Int32)) L) (h4 : vp_in (x3 + (4 : Int32)) L) (h5 : vp_in (x3 + (5 : Int32)) L)
    (next : ∀ (n : NS) (m' : MS) (H : Heap) (locs : List Loc) (ls : Array Slot), Rel n m' → va_P E.1 vwCl (wX3 E a n ++ wX4 E bm m') H → va_D (fun q : Nat => s.heap.size ≤ q) (wX3 E a n ++ wX4 E bm m') → va_S (fun q : Nat => s.heap.size ≤ q) s.heap H locs → lv_has ls 4 [(3, .int x3), (2, .ref (bm 0)), (1, .ref (a 8 0)), (0, .ref b)] → W p l e room_1 s m #[Value.ref b] below meth c H locs 600000 7302250 (lw_Z below #[Value.ref b] s) (F0 m 1348 ls []))
    (n : NS) (m' : MS) (H : Heap) (locs : List Loc) (ls : Array Slot) (hR : Rel n m') (hP : va_P E.1 vwCl (wX3 E a n ++ wX4 E bm m') H) (hD : va_D (fun q : Nat => s.heap.size ≤ q) (wX3 E a n ++ wX4 E bm m')) (hS : va_S (fun q : Nat => s.heap.size ≤ q) s.heap H locs) (hl : lv_has ls 4 [(3, .int x3), (2, .ref (bm 0)), (1, .ref (a 8 0)), (0, .ref b)]) : W p l e room_1 s m #[Value.ref b] below meth c H locs 600000 7302250 (lw_Z below #[Value.ref b] s) (F0 m 602 ls []) := by
  obtain ⟨hx, hb, hr, hml, hown, hts, hX, hbl, hlocks, hgv⟩ := C0
  have hA : ∀ q : Nat, s.heap.size ≤ q → (fun q : Nat => s.heap.size ≤ q) q := fun _ h => h
  have hbA : ¬ (fun q : Nat => s.heap.size ≤ q) b := Nat.not_le.mpr hbl
  refine lv_aload_n hx hb dL_law_602 rfl (lv_at hl 2 rfl) ?_
  refine lv_aload_n hx hb dL_law_603 rfl (lv_at hl 3 rfl) ?_
  refine lv_iload_n hx hb dL_law_604 rfl (lv_at hl 0 rfl) ?_
  refine lv_iconst (v := (1 : Int32)) hx hb dL_law_605 (by decide) ?_
  refine lv_iadd hx hb dL_law_606 ?_
  refine va_sld hx hb hX hbl hbA hS h1 dL_law_607 ?_
  obtain ⟨r, n1, m1, hf3, hf4, hR1⟩ := op_house hR (xs (x3 + (1 : Int32)).toNatClampNeg)
  refine cV (X := []) (Y := wX4 E bm m') (w := (wX3 E a n ++ wX4 E bm m')) (w' := (wX3 E a n1 ++ wX4 E bm m')) (q0 := 0) lk_L_64 hx hb hml hown hE hA (c_X3_house l E a n (xs (x3 + (1 : Int32)).toNatClampNeg) r n1 hf3) rfl rfl hP hD hS rfl rfl ⟨rfl, rfl, Nat.le_of_ble_eq_true rfl, Nat.le_of_ble_eq_true rfl⟩ hl.1 (As := [.int (xs (x3 + (1 : Int32)).toNatClampNeg)]) (rest := []) rfl rfl (Nat.le_of_ble_eq_true rfl) ⟨Nat.le_refl _, Nat.le_refl _⟩ dL_law_608 (fun H locs hP hD hS => ?_)
  refine W.eq (g2 := F0 m 611 ls [.int r]) rfl ?_
  refine lv_aload_n hx hb dL_law_611 rfl (lv_at hl 1 rfl) ?_
  refine lv_aload_n hx hb dL_law_612 rfl (lv_at hl 3 rfl) ?_
  refine lv_iload_n hx hb dL_law_613 rfl (lv_at hl 0 rfl) ?_
  refine lv_iconst (v := (1 : Int32)) hx hb dL_law_614 (by decide) ?_
  refine lv_iadd hx hb dL_law_615 ?_
  refine va_sld hx hb hX hbl hbA hS h1 dL_law_616 ?_
  refine cV (X := wX3 E a n1) (Y := []) (w := (wX3 E a n1 ++ wX4 E bm m')) (w' := (wX3 E a n1 ++ wX4 E bm m1)) (q0 := 0) lk_L_67 hx hb hml hown hE hA (c_X4_house l E bm m' (xs (x3 + (1 : Int32)).toNatClampNeg) r m1 hf4) rfl rfl hP hD hS rfl rfl ⟨rfl, rfl, Nat.le_of_ble_eq_true rfl, Nat.le_of_ble_eq_true rfl⟩ hl.1 (As := [.int (xs (x3 + (1 : Int32)).toNatClampNeg)]) (rest := [.int r]) rfl rfl (Nat.le_of_ble_eq_true rfl) ⟨Nat.le_refl _, Nat.le_refl _⟩ dL_law_617 (fun H locs hP hD hS => ?_)
  refine W.eq (g2 := F0 m 620 ls [.int r, .int r]) rfl ?_
  refine lv_icmp_eq (tgt := 1348) hx hb dL_law_620 (by decide) (fun _ => ?_) (fun c9 => absurd rfl c9)
  exact next n1 m1 H locs ls hR1 hP hD hS hl
set_option maxHeartbeats 4000000 in
set_option maxRecDepth 100000 in
theorem law_heard {p : Program} {l : Launch} {e : Env} {s : State} {m : MethodId} {below : List Frame} {meth : Method} {c : Code} {b L : Nat} {xs : Nat → Int32} {E : EV} {a : Nat → Nat → Nat} {bm : Nat → Nat} {x3 : Int32} (C0 : lw_At p s m meth c b L xs) (hE : Ev E (fun q : Nat => s.heap.size ≤ q) s) (h1 : vp_in (x3 + (1 : Int32)) L) (h2 : vp_in (x3 + (2 : Int32)) L) (h3 : vp_in (x3 + (3 : Int32)) L) (h4 : vp_in (x3 + (4 : Int32)) L) (h5 : vp_in (x3 + (5 : Int32)) L)
    (next : ∀ (n : NS) (m' : MS) (H : Heap) (locs : List Loc) (ls : Array Slot), Rel n m' → va_P E.1 vwCl (wX3 E a n ++ wX4 E bm m') H → va_D (fun q : Nat => s.heap.size ≤ q) (wX3 E a n ++ wX4 E bm m') → va_S (fun q : Nat => s.heap.size ≤ q) s.heap H locs → lv_has ls 4 [(3, .int x3), (2, .ref (bm 0)), (1, .ref (a 8 0)), (0, .ref b)] → W p l e room_1 s m #[Value.ref b] below meth c H locs 600000 7302250 (lw_Z below #[Value.ref b] s) (F0 m 1348 ls []))
    (n : NS) (m' : MS) (H : Heap) (locs : List Loc) (ls : Array Slot) (hR : Rel n m') (hP : va_P E.1 vwCl (wX3 E a n ++ wX4 E bm m') H) (hD : va_D (fun q : Nat => s.heap.size ≤ q) (wX3 E a n ++ wX4 E bm m')) (hS : va_S (fun q : Nat => s.heap.size ≤ q) s.heap H locs) (hl : lv_has ls 4 [(3, .int x3), (2, .ref (bm 0)), (1, .ref (a 8 0)), (0, .ref b)]) : W p l e room_1 s m #[Value.ref b] below meth c H locs 600000 7302250 (lw_Z below #[Value.ref b] s) (F0 m 625 ls []) := by
  obtain ⟨hx, hb, hr, hml, hown, hts, hX, hbl, hlocks, hgv⟩ := C0
  have hA : ∀ q : Nat, s.heap.size ≤ q → (fun q : Nat => s.heap.size ≤ q) q := fun _ h => h
  have hbA : ¬ (fun q : Nat => s.heap.size ≤ q) b := Nat.not_le.mpr hbl
  refine lv_aload_n hx hb dL_law_625 rfl (lv_at hl 2 rfl) ?_
  refine lv_aload_n hx hb dL_law_626 rfl (lv_at hl 3 rfl) ?_
  refine lv_iload_n hx hb dL_law_627 rfl (lv_at hl 0 rfl) ?_
  refine lv_iconst (v := (1 : Int32)) hx hb dL_law_628 (by decide) ?_
  refine lv_iadd hx hb dL_law_629 ?_
  refine va_sld hx hb hX hbl hbA hS h1 dL_law_630 ?_
  refine lv_aload_n hx hb dL_law_631 rfl (lv_at hl 3 rfl) ?_
  refine lv_iload_n hx hb dL_law_632 rfl (lv_at hl 0 rfl) ?_
  refine lv_iconst (v := (2 : Int32)) hx hb dL_law_633 (by decide) ?_
  refine lv_iadd hx hb dL_law_634 ?_
  refine va_sld hx hb hX hbl hbA hS h2 dL_law_635 ?_
  obtain ⟨r, n1, m1, hf3, hf4, hR1⟩ := op_heard hR (xs (x3 + (1 : Int32)).toNatClampNeg) (xs (x3 + (2 : Int32)).toNatClampNeg)
  refine cV (X := []) (Y := wX4 E bm m') (w := (wX3 E a n ++ wX4 E bm m')) (w' := (wX3 E a n1 ++ wX4 E bm m')) (q0 := 0) lk_L_68 hx hb hml hown hE hA (c_X3_heard l E a n (xs (x3 + (1 : Int32)).toNatClampNeg) (xs (x3 + (2 : Int32)).toNatClampNeg) r n1 hf3) rfl rfl hP hD hS rfl rfl ⟨rfl, rfl, Nat.le_of_ble_eq_true rfl, Nat.le_of_ble_eq_true rfl⟩ hl.1 (As := [.int (xs (x3 + (1 : Int32)).toNatClampNeg), .int (xs (x3 + (2 : Int32)).toNatClampNeg)]) (rest := []) rfl rfl (Nat.le_of_ble_eq_true rfl) ⟨Nat.le_refl _, Nat.le_refl _⟩ dL_law_636 (fun H locs hP hD hS => ?_)
  refine W.eq (g2 := F0 m 639 ls [.int r]) rfl ?_
  refine lv_aload_n hx hb dL_law_639 rfl (lv_at hl 1 rfl) ?_
  refine lv_aload_n hx hb dL_law_640 rfl (lv_at hl 3 rfl) ?_
  refine lv_iload_n hx hb dL_law_641 rfl (lv_at hl 0 rfl) ?_
  refine lv_iconst (v := (1 : Int32)) hx hb dL_law_642 (by decide) ?_
  refine lv_iadd hx hb dL_law_643 ?_
  refine va_sld hx hb hX hbl hbA hS h1 dL_law_644 ?_
  refine lv_aload_n hx hb dL_law_645 rfl (lv_at hl 3 rfl) ?_
  refine lv_iload_n hx hb dL_law_646 rfl (lv_at hl 0 rfl) ?_
  refine lv_iconst (v := (2 : Int32)) hx hb dL_law_647 (by decide) ?_
  refine lv_iadd hx hb dL_law_648 ?_
  refine va_sld hx hb hX hbl hbA hS h2 dL_law_649 ?_
  refine cV (X := wX3 E a n1) (Y := []) (w := (wX3 E a n1 ++ wX4 E bm m')) (w' := (wX3 E a n1 ++ wX4 E bm m1)) (q0 := 0) lk_L_71 hx hb hml hown hE hA (c_X4_heard l E bm m' (xs (x3 + (1 : Int32)).toNatClampNeg) (xs (x3 + (2 : Int32)).toNatClampNeg) r m1 hf4) rfl rfl hP hD hS rfl rfl ⟨rfl, rfl, Nat.le_of_ble_eq_true rfl, Nat.le_of_ble_eq_true rfl⟩ hl.1 (As := [.int (xs (x3 + (1 : Int32)).toNatClampNeg), .int (xs (x3 + (2 : Int32)).toNatClampNeg)]) (rest := [.int r]) rfl rfl (Nat.le_of_ble_eq_true rfl) ⟨Nat.le_refl _, Nat.le_refl _⟩ dL_law_650 (fun H locs hP hD hS => ?_)
  refine W.eq (g2 := F0 m 653 ls [.int r, .int r]) rfl ?_
  refine lv_icmp_eq (tgt := 1348) hx hb dL_law_653 (by decide) (fun _ => ?_) (fun c9 => absurd rfl c9)
  exact next n1 m1 H locs ls hR1 hP hD hS hl
set_option maxHeartbeats 4000000 in
set_option maxRecDepth 100000 in
theorem law_does {p : Program} {l : Launch} {e : Env} {s : State} {m : MethodId} {below : List Frame} {meth : Method} {c : Code} {b L : Nat} {xs : Nat → Int32} {E : EV} {a : Nat → Nat → Nat} {bm : Nat → Nat} {x3 : Int32} (C0 : lw_At p s m meth c b L xs) (hE : Ev E (fun q : Nat => s.heap.size ≤ q) s) (h1 : vp_in (x3 + (1 : Int32)) L) (h2 : vp_in (x3 + (2 : Int32)) L) (h3 : vp_in (x3 + (3 : Int32)) L) (h4 : vp_in (x3 + (4 : Int32)) L) (h5 : vp_in (x3 + (5 : Int32)) L)
    (next : ∀ (n : NS) (m' : MS) (H : Heap) (locs : List Loc) (ls : Array Slot), Rel n m' → va_P E.1 vwCl (wX3 E a n ++ wX4 E bm m') H → va_D (fun q : Nat => s.heap.size ≤ q) (wX3 E a n ++ wX4 E bm m') → va_S (fun q : Nat => s.heap.size ≤ q) s.heap H locs → lv_has ls 4 [(3, .int x3), (2, .ref (bm 0)), (1, .ref (a 8 0)), (0, .ref b)] → W p l e room_1 s m #[Value.ref b] below meth c H locs 600000 7302250 (lw_Z below #[Value.ref b] s) (F0 m 1348 ls []))
    (n : NS) (m' : MS) (H : Heap) (locs : List Loc) (ls : Array Slot) (hR : Rel n m') (hP : va_P E.1 vwCl (wX3 E a n ++ wX4 E bm m') H) (hD : va_D (fun q : Nat => s.heap.size ≤ q) (wX3 E a n ++ wX4 E bm m')) (hS : va_S (fun q : Nat => s.heap.size ≤ q) s.heap H locs) (hl : lv_has ls 4 [(3, .int x3), (2, .ref (bm 0)), (1, .ref (a 8 0)), (0, .ref b)]) : W p l e room_1 s m #[Value.ref b] below meth c H locs 600000 7302250 (lw_Z below #[Value.ref b] s) (F0 m 658 ls []) := by
  obtain ⟨hx, hb, hr, hml, hown, hts, hX, hbl, hlocks, hgv⟩ := C0
  have hA : ∀ q : Nat, s.heap.size ≤ q → (fun q : Nat => s.heap.size ≤ q) q := fun _ h => h
  have hbA : ¬ (fun q : Nat => s.heap.size ≤ q) b := Nat.not_le.mpr hbl
  refine lv_aload_n hx hb dL_law_658 rfl (lv_at hl 2 rfl) ?_
  refine lv_aload_n hx hb dL_law_659 rfl (lv_at hl 3 rfl) ?_
  refine lv_iload_n hx hb dL_law_660 rfl (lv_at hl 0 rfl) ?_
  refine lv_iconst (v := (1 : Int32)) hx hb dL_law_661 (by decide) ?_
  refine lv_iadd hx hb dL_law_662 ?_
  refine va_sld hx hb hX hbl hbA hS h1 dL_law_663 ?_
  refine lv_aload_n hx hb dL_law_664 rfl (lv_at hl 3 rfl) ?_
  refine lv_iload_n hx hb dL_law_665 rfl (lv_at hl 0 rfl) ?_
  refine lv_iconst (v := (2 : Int32)) hx hb dL_law_666 (by decide) ?_
  refine lv_iadd hx hb dL_law_667 ?_
  refine va_sld hx hb hX hbl hbA hS h2 dL_law_668 ?_
  obtain ⟨r, n1, m1, hf3, hf4, hR1⟩ := op_does hR (xs (x3 + (1 : Int32)).toNatClampNeg) (xs (x3 + (2 : Int32)).toNatClampNeg)
  refine cV (X := []) (Y := wX4 E bm m') (w := (wX3 E a n ++ wX4 E bm m')) (w' := (wX3 E a n1 ++ wX4 E bm m')) (q0 := 0) lk_L_72 hx hb hml hown hE hA (c_X3_does l E a n (xs (x3 + (1 : Int32)).toNatClampNeg) (xs (x3 + (2 : Int32)).toNatClampNeg) r n1 hf3) rfl rfl hP hD hS rfl rfl ⟨rfl, rfl, Nat.le_of_ble_eq_true rfl, Nat.le_of_ble_eq_true rfl⟩ hl.1 (As := [.int (xs (x3 + (1 : Int32)).toNatClampNeg), .int (xs (x3 + (2 : Int32)).toNatClampNeg)]) (rest := []) rfl rfl (Nat.le_of_ble_eq_true rfl) ⟨Nat.le_refl _, Nat.le_refl _⟩ dL_law_669 (fun H locs hP hD hS => ?_)
  refine W.eq (g2 := F0 m 672 ls [.int r]) rfl ?_
  refine lv_aload_n hx hb dL_law_672 rfl (lv_at hl 1 rfl) ?_
  refine lv_aload_n hx hb dL_law_673 rfl (lv_at hl 3 rfl) ?_
  refine lv_iload_n hx hb dL_law_674 rfl (lv_at hl 0 rfl) ?_
  refine lv_iconst (v := (1 : Int32)) hx hb dL_law_675 (by decide) ?_
  refine lv_iadd hx hb dL_law_676 ?_
  refine va_sld hx hb hX hbl hbA hS h1 dL_law_677 ?_
  refine lv_aload_n hx hb dL_law_678 rfl (lv_at hl 3 rfl) ?_
  refine lv_iload_n hx hb dL_law_679 rfl (lv_at hl 0 rfl) ?_
  refine lv_iconst (v := (2 : Int32)) hx hb dL_law_680 (by decide) ?_
  refine lv_iadd hx hb dL_law_681 ?_
  refine va_sld hx hb hX hbl hbA hS h2 dL_law_682 ?_
  refine cV (X := wX3 E a n1) (Y := []) (w := (wX3 E a n1 ++ wX4 E bm m')) (w' := (wX3 E a n1 ++ wX4 E bm m1)) (q0 := 0) lk_L_75 hx hb hml hown hE hA (c_X4_does l E bm m' (xs (x3 + (1 : Int32)).toNatClampNeg) (xs (x3 + (2 : Int32)).toNatClampNeg) r m1 hf4) rfl rfl hP hD hS rfl rfl ⟨rfl, rfl, Nat.le_of_ble_eq_true rfl, Nat.le_of_ble_eq_true rfl⟩ hl.1 (As := [.int (xs (x3 + (1 : Int32)).toNatClampNeg), .int (xs (x3 + (2 : Int32)).toNatClampNeg)]) (rest := [.int r]) rfl rfl (Nat.le_of_ble_eq_true rfl) ⟨Nat.le_refl _, Nat.le_refl _⟩ dL_law_683 (fun H locs hP hD hS => ?_)
  refine W.eq (g2 := F0 m 686 ls [.int r, .int r]) rfl ?_
  refine lv_icmp_eq (tgt := 1348) hx hb dL_law_686 (by decide) (fun _ => ?_) (fun c9 => absurd rfl c9)
  exact next n1 m1 H locs ls hR1 hP hD hS hl
set_option maxHeartbeats 4000000 in
set_option maxRecDepth 100000 in
theorem law_comes {p : Program} {l : Launch} {e : Env} {s : State} {m : MethodId} {below : List Frame} {meth : Method} {c : Code} {b L : Nat} {xs : Nat → Int32} {E : EV} {a : Nat → Nat → Nat} {bm : Nat → Nat} {x3 : Int32} (C0 : lw_At p s m meth c b L xs) (hE : Ev E (fun q : Nat => s.heap.size ≤ q) s) (h1 : vp_in (x3 + (1 : Int32)) L) (h2 : vp_in (x3 + (2 : Int32)) L) (h3 : vp_in (x3 + (3 : Int32)) L) (h4 : vp_in (x3 + (4 : Int32)) L) (h5 : vp_in (x3 + (5 : Int32)) L)
    (next : ∀ (n : NS) (m' : MS) (H : Heap) (locs : List Loc) (ls : Array Slot), Rel n m' → va_P E.1 vwCl (wX3 E a n ++ wX4 E bm m') H → va_D (fun q : Nat => s.heap.size ≤ q) (wX3 E a n ++ wX4 E bm m') → va_S (fun q : Nat => s.heap.size ≤ q) s.heap H locs → lv_has ls 4 [(3, .int x3), (2, .ref (bm 0)), (1, .ref (a 8 0)), (0, .ref b)] → W p l e room_1 s m #[Value.ref b] below meth c H locs 600000 7302250 (lw_Z below #[Value.ref b] s) (F0 m 1348 ls []))
    (n : NS) (m' : MS) (H : Heap) (locs : List Loc) (ls : Array Slot) (hR : Rel n m') (hP : va_P E.1 vwCl (wX3 E a n ++ wX4 E bm m') H) (hD : va_D (fun q : Nat => s.heap.size ≤ q) (wX3 E a n ++ wX4 E bm m')) (hS : va_S (fun q : Nat => s.heap.size ≤ q) s.heap H locs) (hl : lv_has ls 4 [(3, .int x3), (2, .ref (bm 0)), (1, .ref (a 8 0)), (0, .ref b)]) : W p l e room_1 s m #[Value.ref b] below meth c H locs 600000 7302250 (lw_Z below #[Value.ref b] s) (F0 m 691 ls []) := by
  obtain ⟨hx, hb, hr, hml, hown, hts, hX, hbl, hlocks, hgv⟩ := C0
  have hA : ∀ q : Nat, s.heap.size ≤ q → (fun q : Nat => s.heap.size ≤ q) q := fun _ h => h
  have hbA : ¬ (fun q : Nat => s.heap.size ≤ q) b := Nat.not_le.mpr hbl
  refine lv_aload_n hx hb dL_law_691 rfl (lv_at hl 2 rfl) ?_
  refine lv_aload_n hx hb dL_law_692 rfl (lv_at hl 3 rfl) ?_
  refine lv_iload_n hx hb dL_law_693 rfl (lv_at hl 0 rfl) ?_
  refine lv_iconst (v := (1 : Int32)) hx hb dL_law_694 (by decide) ?_
  refine lv_iadd hx hb dL_law_695 ?_
  refine va_sld hx hb hX hbl hbA hS h1 dL_law_696 ?_
  refine lv_aload_n hx hb dL_law_697 rfl (lv_at hl 3 rfl) ?_
  refine lv_iload_n hx hb dL_law_698 rfl (lv_at hl 0 rfl) ?_
  refine lv_iconst (v := (2 : Int32)) hx hb dL_law_699 (by decide) ?_
  refine lv_iadd hx hb dL_law_700 ?_
  refine va_sld hx hb hX hbl hbA hS h2 dL_law_701 ?_
  obtain ⟨r, n1, m1, hf3, hf4, hR1⟩ := op_comes hR (xs (x3 + (1 : Int32)).toNatClampNeg) (xs (x3 + (2 : Int32)).toNatClampNeg)
  refine cV (X := []) (Y := wX4 E bm m') (w := (wX3 E a n ++ wX4 E bm m')) (w' := (wX3 E a n1 ++ wX4 E bm m')) (q0 := 0) lk_L_76 hx hb hml hown hE hA (c_X3_comes l E a n (xs (x3 + (1 : Int32)).toNatClampNeg) (xs (x3 + (2 : Int32)).toNatClampNeg) r n1 hf3) rfl rfl hP hD hS rfl rfl ⟨rfl, rfl, Nat.le_of_ble_eq_true rfl, Nat.le_of_ble_eq_true rfl⟩ hl.1 (As := [.int (xs (x3 + (1 : Int32)).toNatClampNeg), .int (xs (x3 + (2 : Int32)).toNatClampNeg)]) (rest := []) rfl rfl (Nat.le_of_ble_eq_true rfl) ⟨Nat.le_refl _, Nat.le_refl _⟩ dL_law_702 (fun H locs hP hD hS => ?_)
  refine W.eq (g2 := F0 m 705 ls [.int r]) rfl ?_
  refine lv_aload_n hx hb dL_law_705 rfl (lv_at hl 1 rfl) ?_
  refine lv_aload_n hx hb dL_law_706 rfl (lv_at hl 3 rfl) ?_
  refine lv_iload_n hx hb dL_law_707 rfl (lv_at hl 0 rfl) ?_
  refine lv_iconst (v := (1 : Int32)) hx hb dL_law_708 (by decide) ?_
  refine lv_iadd hx hb dL_law_709 ?_
  refine va_sld hx hb hX hbl hbA hS h1 dL_law_710 ?_
  refine lv_aload_n hx hb dL_law_711 rfl (lv_at hl 3 rfl) ?_
  refine lv_iload_n hx hb dL_law_712 rfl (lv_at hl 0 rfl) ?_
  refine lv_iconst (v := (2 : Int32)) hx hb dL_law_713 (by decide) ?_
  refine lv_iadd hx hb dL_law_714 ?_
  refine va_sld hx hb hX hbl hbA hS h2 dL_law_715 ?_
  refine cV (X := wX3 E a n1) (Y := []) (w := (wX3 E a n1 ++ wX4 E bm m')) (w' := (wX3 E a n1 ++ wX4 E bm m1)) (q0 := 0) lk_L_79 hx hb hml hown hE hA (c_X4_comes l E bm m' (xs (x3 + (1 : Int32)).toNatClampNeg) (xs (x3 + (2 : Int32)).toNatClampNeg) r m1 hf4) rfl rfl hP hD hS rfl rfl ⟨rfl, rfl, Nat.le_of_ble_eq_true rfl, Nat.le_of_ble_eq_true rfl⟩ hl.1 (As := [.int (xs (x3 + (1 : Int32)).toNatClampNeg), .int (xs (x3 + (2 : Int32)).toNatClampNeg)]) (rest := [.int r]) rfl rfl (Nat.le_of_ble_eq_true rfl) ⟨Nat.le_refl _, Nat.le_refl _⟩ dL_law_716 (fun H locs hP hD hS => ?_)
  refine W.eq (g2 := F0 m 719 ls [.int r, .int r]) rfl ?_
  refine lv_icmp_eq (tgt := 1348) hx hb dL_law_719 (by decide) (fun _ => ?_) (fun c9 => absurd rfl c9)
  exact next n1 m1 H locs ls hR1 hP hD hS hl
set_option maxHeartbeats 4000000 in
set_option maxRecDepth 100000 in
theorem law_place {p : Program} {l : Launch} {e : Env} {s : State} {m : MethodId} {below : List Frame} {meth : Method} {c : Code} {b L : Nat} {xs : Nat → Int32} {E : EV} {a : Nat → Nat → Nat} {bm : Nat → Nat} {x3 : Int32} (C0 : lw_At p s m meth c b L xs) (hE : Ev E (fun q : Nat => s.heap.size ≤ q) s) (h1 : vp_in (x3 + (1 : Int32)) L) (h2 : vp_in (x3 + (2 : Int32)) L) (h3 : vp_in (x3 + (3 : Int32)) L) (h4 : vp_in (x3 + (4 : Int32)) L) (h5 : vp_in (x3 + (5 : Int32)) L)
    (next : ∀ (n : NS) (m' : MS) (H : Heap) (locs : List Loc) (ls : Array Slot), Rel n m' → va_P E.1 vwCl (wX3 E a n ++ wX4 E bm m') H → va_D (fun q : Nat => s.heap.size ≤ q) (wX3 E a n ++ wX4 E bm m') → va_S (fun q : Nat => s.heap.size ≤ q) s.heap H locs → lv_has ls 4 [(3, .int x3), (2, .ref (bm 0)), (1, .ref (a 8 0)), (0, .ref b)] → W p l e room_1 s m #[Value.ref b] below meth c H locs 600000 7302250 (lw_Z below #[Value.ref b] s) (F0 m 1348 ls []))
    (n : NS) (m' : MS) (H : Heap) (locs : List Loc) (ls : Array Slot) (hR : Rel n m') (hP : va_P E.1 vwCl (wX3 E a n ++ wX4 E bm m') H) (hD : va_D (fun q : Nat => s.heap.size ≤ q) (wX3 E a n ++ wX4 E bm m')) (hS : va_S (fun q : Nat => s.heap.size ≤ q) s.heap H locs) (hl : lv_has ls 4 [(3, .int x3), (2, .ref (bm 0)), (1, .ref (a 8 0)), (0, .ref b)]) : W p l e room_1 s m #[Value.ref b] below meth c H locs 600000 7302250 (lw_Z below #[Value.ref b] s) (F0 m 724 ls []) := by
  obtain ⟨hx, hb, hr, hml, hown, hts, hX, hbl, hlocks, hgv⟩ := C0
  have hA : ∀ q : Nat, s.heap.size ≤ q → (fun q : Nat => s.heap.size ≤ q) q := fun _ h => h
  have hbA : ¬ (fun q : Nat => s.heap.size ≤ q) b := Nat.not_le.mpr hbl
  refine lv_aload_n hx hb dL_law_724 rfl (lv_at hl 2 rfl) ?_
  refine lv_aload_n hx hb dL_law_725 rfl (lv_at hl 3 rfl) ?_
  refine lv_iload_n hx hb dL_law_726 rfl (lv_at hl 0 rfl) ?_
  refine lv_iconst (v := (1 : Int32)) hx hb dL_law_727 (by decide) ?_
  refine lv_iadd hx hb dL_law_728 ?_
  refine va_sld hx hb hX hbl hbA hS h1 dL_law_729 ?_
  refine lv_aload_n hx hb dL_law_730 rfl (lv_at hl 3 rfl) ?_
  refine lv_iload_n hx hb dL_law_731 rfl (lv_at hl 0 rfl) ?_
  refine lv_iconst (v := (2 : Int32)) hx hb dL_law_732 (by decide) ?_
  refine lv_iadd hx hb dL_law_733 ?_
  refine va_sld hx hb hX hbl hbA hS h2 dL_law_734 ?_
  obtain ⟨r, n1, m1, hf3, hf4, hR1⟩ := op_place hR (xs (x3 + (1 : Int32)).toNatClampNeg) (xs (x3 + (2 : Int32)).toNatClampNeg)
  refine cV (X := []) (Y := wX4 E bm m') (w := (wX3 E a n ++ wX4 E bm m')) (w' := (wX3 E a n1 ++ wX4 E bm m')) (q0 := 0) lk_L_80 hx hb hml hown hE hA (c_X3_place l E a n (xs (x3 + (1 : Int32)).toNatClampNeg) (xs (x3 + (2 : Int32)).toNatClampNeg) r n1 hf3) rfl rfl hP hD hS rfl rfl ⟨rfl, rfl, Nat.le_of_ble_eq_true rfl, Nat.le_of_ble_eq_true rfl⟩ hl.1 (As := [.int (xs (x3 + (1 : Int32)).toNatClampNeg), .int (xs (x3 + (2 : Int32)).toNatClampNeg)]) (rest := []) rfl rfl (Nat.le_of_ble_eq_true rfl) ⟨Nat.le_refl _, Nat.le_refl _⟩ dL_law_735 (fun H locs hP hD hS => ?_)
  refine W.eq (g2 := F0 m 738 ls [.int r]) rfl ?_
  refine lv_aload_n hx hb dL_law_738 rfl (lv_at hl 1 rfl) ?_
  refine lv_aload_n hx hb dL_law_739 rfl (lv_at hl 3 rfl) ?_
  refine lv_iload_n hx hb dL_law_740 rfl (lv_at hl 0 rfl) ?_
  refine lv_iconst (v := (1 : Int32)) hx hb dL_law_741 (by decide) ?_
  refine lv_iadd hx hb dL_law_742 ?_
  refine va_sld hx hb hX hbl hbA hS h1 dL_law_743 ?_
  refine lv_aload_n hx hb dL_law_744 rfl (lv_at hl 3 rfl) ?_
  refine lv_iload_n hx hb dL_law_745 rfl (lv_at hl 0 rfl) ?_
  refine lv_iconst (v := (2 : Int32)) hx hb dL_law_746 (by decide) ?_
  refine lv_iadd hx hb dL_law_747 ?_
  refine va_sld hx hb hX hbl hbA hS h2 dL_law_748 ?_
  refine cV (X := wX3 E a n1) (Y := []) (w := (wX3 E a n1 ++ wX4 E bm m')) (w' := (wX3 E a n1 ++ wX4 E bm m1)) (q0 := 0) lk_L_83 hx hb hml hown hE hA (c_X4_place l E bm m' (xs (x3 + (1 : Int32)).toNatClampNeg) (xs (x3 + (2 : Int32)).toNatClampNeg) r m1 hf4) rfl rfl hP hD hS rfl rfl ⟨rfl, rfl, Nat.le_of_ble_eq_true rfl, Nat.le_of_ble_eq_true rfl⟩ hl.1 (As := [.int (xs (x3 + (1 : Int32)).toNatClampNeg), .int (xs (x3 + (2 : Int32)).toNatClampNeg)]) (rest := [.int r]) rfl rfl (Nat.le_of_ble_eq_true rfl) ⟨Nat.le_refl _, Nat.le_refl _⟩ dL_law_749 (fun H locs hP hD hS => ?_)
  refine W.eq (g2 := F0 m 752 ls [.int r, .int r]) rfl ?_
  refine lv_icmp_eq (tgt := 1348) hx hb dL_law_752 (by decide) (fun _ => ?_) (fun c9 => absurd rfl c9)
  exact next n1 m1 H locs ls hR1 hP hD hS hl
set_option maxHeartbeats 4000000 in
set_option maxRecDepth 100000 in
theorem law_kind {p : Program} {l : Launch} {e : Env} {s : State} {m : MethodId} {below : List Frame} {meth : Method} {c : Code} {b L : Nat} {xs : Nat → Int32} {E : EV} {a : Nat → Nat → Nat} {bm : Nat → Nat} {x3 : Int32} (C0 : lw_At p s m meth c b L xs) (hE : Ev E (fun q : Nat => s.heap.size ≤ q) s) (h1 : vp_in (x3 + (1 : Int32)) L) (h2 : vp_in (x3 + (2 : Int32)) L) (h3 : vp_in (x3 + (3 : Int32)) L) (h4 : vp_in (x3 + (4 : Int32)) L) (h5 : vp_in (x3 + (5 : Int32)) L)
    (next : ∀ (n : NS) (m' : MS) (H : Heap) (locs : List Loc) (ls : Array Slot), Rel n m' → va_P E.1 vwCl (wX3 E a n ++ wX4 E bm m') H → va_D (fun q : Nat => s.heap.size ≤ q) (wX3 E a n ++ wX4 E bm m') → va_S (fun q : Nat => s.heap.size ≤ q) s.heap H locs → lv_has ls 4 [(3, .int x3), (2, .ref (bm 0)), (1, .ref (a 8 0)), (0, .ref b)] → W p l e room_1 s m #[Value.ref b] below meth c H locs 600000 7302250 (lw_Z below #[Value.ref b] s) (F0 m 1348 ls []))
    (n : NS) (m' : MS) (H : Heap) (locs : List Loc) (ls : Array Slot) (hR : Rel n m') (hP : va_P E.1 vwCl (wX3 E a n ++ wX4 E bm m') H) (hD : va_D (fun q : Nat => s.heap.size ≤ q) (wX3 E a n ++ wX4 E bm m')) (hS : va_S (fun q : Nat => s.heap.size ≤ q) s.heap H locs) (hl : lv_has ls 4 [(3, .int x3), (2, .ref (bm 0)), (1, .ref (a 8 0)), (0, .ref b)]) : W p l e room_1 s m #[Value.ref b] below meth c H locs 600000 7302250 (lw_Z below #[Value.ref b] s) (F0 m 757 ls []) := by
  obtain ⟨hx, hb, hr, hml, hown, hts, hX, hbl, hlocks, hgv⟩ := C0
  have hA : ∀ q : Nat, s.heap.size ≤ q → (fun q : Nat => s.heap.size ≤ q) q := fun _ h => h
  have hbA : ¬ (fun q : Nat => s.heap.size ≤ q) b := Nat.not_le.mpr hbl
  refine lv_aload_n hx hb dL_law_757 rfl (lv_at hl 2 rfl) ?_
  refine lv_aload_n hx hb dL_law_758 rfl (lv_at hl 3 rfl) ?_
  refine lv_iload_n hx hb dL_law_759 rfl (lv_at hl 0 rfl) ?_
  refine lv_iconst (v := (1 : Int32)) hx hb dL_law_760 (by decide) ?_
  refine lv_iadd hx hb dL_law_761 ?_
  refine va_sld hx hb hX hbl hbA hS h1 dL_law_762 ?_
  refine lv_aload_n hx hb dL_law_763 rfl (lv_at hl 3 rfl) ?_
  refine lv_iload_n hx hb dL_law_764 rfl (lv_at hl 0 rfl) ?_
  refine lv_iconst (v := (2 : Int32)) hx hb dL_law_765 (by decide) ?_
  refine lv_iadd hx hb dL_law_766 ?_
  refine va_sld hx hb hX hbl hbA hS h2 dL_law_767 ?_
  obtain ⟨r, n1, m1, hf3, hf4, hR1⟩ := op_kind hR (xs (x3 + (1 : Int32)).toNatClampNeg) (xs (x3 + (2 : Int32)).toNatClampNeg)
  refine cV (X := []) (Y := wX4 E bm m') (w := (wX3 E a n ++ wX4 E bm m')) (w' := (wX3 E a n1 ++ wX4 E bm m')) (q0 := 0) lk_L_84 hx hb hml hown hE hA (c_X3_kind l E a n (xs (x3 + (1 : Int32)).toNatClampNeg) (xs (x3 + (2 : Int32)).toNatClampNeg) r n1 hf3) rfl rfl hP hD hS rfl rfl ⟨rfl, rfl, Nat.le_of_ble_eq_true rfl, Nat.le_of_ble_eq_true rfl⟩ hl.1 (As := [.int (xs (x3 + (1 : Int32)).toNatClampNeg), .int (xs (x3 + (2 : Int32)).toNatClampNeg)]) (rest := []) rfl rfl (Nat.le_of_ble_eq_true rfl) ⟨Nat.le_refl _, Nat.le_refl _⟩ dL_law_768 (fun H locs hP hD hS => ?_)
  refine W.eq (g2 := F0 m 771 ls [.int r]) rfl ?_
  refine lv_aload_n hx hb dL_law_771 rfl (lv_at hl 1 rfl) ?_
  refine lv_aload_n hx hb dL_law_772 rfl (lv_at hl 3 rfl) ?_
  refine lv_iload_n hx hb dL_law_773 rfl (lv_at hl 0 rfl) ?_
  refine lv_iconst (v := (1 : Int32)) hx hb dL_law_774 (by decide) ?_
  refine lv_iadd hx hb dL_law_775 ?_
  refine va_sld hx hb hX hbl hbA hS h1 dL_law_776 ?_
  refine lv_aload_n hx hb dL_law_777 rfl (lv_at hl 3 rfl) ?_
  refine lv_iload_n hx hb dL_law_778 rfl (lv_at hl 0 rfl) ?_
  refine lv_iconst (v := (2 : Int32)) hx hb dL_law_779 (by decide) ?_
  refine lv_iadd hx hb dL_law_780 ?_
  refine va_sld hx hb hX hbl hbA hS h2 dL_law_781 ?_
  refine cV (X := wX3 E a n1) (Y := []) (w := (wX3 E a n1 ++ wX4 E bm m')) (w' := (wX3 E a n1 ++ wX4 E bm m1)) (q0 := 0) lk_L_87 hx hb hml hown hE hA (c_X4_kind l E bm m' (xs (x3 + (1 : Int32)).toNatClampNeg) (xs (x3 + (2 : Int32)).toNatClampNeg) r m1 hf4) rfl rfl hP hD hS rfl rfl ⟨rfl, rfl, Nat.le_of_ble_eq_true rfl, Nat.le_of_ble_eq_true rfl⟩ hl.1 (As := [.int (xs (x3 + (1 : Int32)).toNatClampNeg), .int (xs (x3 + (2 : Int32)).toNatClampNeg)]) (rest := [.int r]) rfl rfl (Nat.le_of_ble_eq_true rfl) ⟨Nat.le_refl _, Nat.le_refl _⟩ dL_law_782 (fun H locs hP hD hS => ?_)
  refine W.eq (g2 := F0 m 785 ls [.int r, .int r]) rfl ?_
  refine lv_icmp_eq (tgt := 1348) hx hb dL_law_785 (by decide) (fun _ => ?_) (fun c9 => absurd rfl c9)
  exact next n1 m1 H locs ls hR1 hP hD hS hl
set_option maxHeartbeats 4000000 in
set_option maxRecDepth 100000 in
theorem law_fresh {p : Program} {l : Launch} {e : Env} {s : State} {m : MethodId} {below : List Frame} {meth : Method} {c : Code} {b L : Nat} {xs : Nat → Int32} {E : EV} {a : Nat → Nat → Nat} {bm : Nat → Nat} {x3 : Int32} (C0 : lw_At p s m meth c b L xs) (hE : Ev E (fun q : Nat => s.heap.size ≤ q) s) (h1 : vp_in (x3 + (1 : Int32)) L) (h2 : vp_in (x3 + (2 : Int32)) L) (h3 : vp_in (x3 + (3 : Int32)) L) (h4 : vp_in (x3 + (4 : Int32)) L) (h5 : vp_in (x3 + (5 : Int32)) L)
    (next : ∀ (n : NS) (m' : MS) (H : Heap) (locs : List Loc) (ls : Array Slot), Rel n m' → va_P E.1 vwCl (wX3 E a n ++ wX4 E bm m') H → va_D (fun q : Nat => s.heap.size ≤ q) (wX3 E a n ++ wX4 E bm m') → va_S (fun q : Nat => s.heap.size ≤ q) s.heap H locs → lv_has ls 4 [(3, .int x3), (2, .ref (bm 0)), (1, .ref (a 8 0)), (0, .ref b)] → W p l e room_1 s m #[Value.ref b] below meth c H locs 600000 7302250 (lw_Z below #[Value.ref b] s) (F0 m 1348 ls []))
    (n : NS) (m' : MS) (H : Heap) (locs : List Loc) (ls : Array Slot) (hR : Rel n m') (hP : va_P E.1 vwCl (wX3 E a n ++ wX4 E bm m') H) (hD : va_D (fun q : Nat => s.heap.size ≤ q) (wX3 E a n ++ wX4 E bm m')) (hS : va_S (fun q : Nat => s.heap.size ≤ q) s.heap H locs) (hl : lv_has ls 4 [(3, .int x3), (2, .ref (bm 0)), (1, .ref (a 8 0)), (0, .ref b)]) : W p l e room_1 s m #[Value.ref b] below meth c H locs 600000 7302250 (lw_Z below #[Value.ref b] s) (F0 m 790 ls []) := by
  obtain ⟨hx, hb, hr, hml, hown, hts, hX, hbl, hlocks, hgv⟩ := C0
  have hA : ∀ q : Nat, s.heap.size ≤ q → (fun q : Nat => s.heap.size ≤ q) q := fun _ h => h
  have hbA : ¬ (fun q : Nat => s.heap.size ≤ q) b := Nat.not_le.mpr hbl
  refine lv_aload_n hx hb dL_law_790 rfl (lv_at hl 2 rfl) ?_
  refine lv_aload_n hx hb dL_law_791 rfl (lv_at hl 3 rfl) ?_
  refine lv_iload_n hx hb dL_law_792 rfl (lv_at hl 0 rfl) ?_
  refine lv_iconst (v := (1 : Int32)) hx hb dL_law_793 (by decide) ?_
  refine lv_iadd hx hb dL_law_794 ?_
  refine va_sld hx hb hX hbl hbA hS h1 dL_law_795 ?_
  refine lv_aload_n hx hb dL_law_796 rfl (lv_at hl 3 rfl) ?_
  refine lv_iload_n hx hb dL_law_797 rfl (lv_at hl 0 rfl) ?_
  refine lv_iconst (v := (2 : Int32)) hx hb dL_law_798 (by decide) ?_
  refine lv_iadd hx hb dL_law_799 ?_
  refine va_sld hx hb hX hbl hbA hS h2 dL_law_800 ?_
  refine lv_aload_n hx hb dL_law_801 rfl (lv_at hl 3 rfl) ?_
  refine lv_iload_n hx hb dL_law_802 rfl (lv_at hl 0 rfl) ?_
  refine lv_iconst (v := (3 : Int32)) hx hb dL_law_803 (by decide) ?_
  refine lv_iadd hx hb dL_law_804 ?_
  refine va_sld hx hb hX hbl hbA hS h3 dL_law_805 ?_
  obtain ⟨r, n1, m1, hf3, hf4, hR1⟩ := op_fresh hR (xs (x3 + (1 : Int32)).toNatClampNeg) (xs (x3 + (2 : Int32)).toNatClampNeg) (xs (x3 + (3 : Int32)).toNatClampNeg)
  refine cV (X := []) (Y := wX4 E bm m') (w := (wX3 E a n ++ wX4 E bm m')) (w' := (wX3 E a n1 ++ wX4 E bm m')) (q0 := 0) lk_L_88 hx hb hml hown hE hA (c_X3_fresh l E a n (xs (x3 + (1 : Int32)).toNatClampNeg) (xs (x3 + (2 : Int32)).toNatClampNeg) (xs (x3 + (3 : Int32)).toNatClampNeg) r n1 hf3) rfl rfl hP hD hS rfl rfl ⟨rfl, rfl, Nat.le_of_ble_eq_true rfl, Nat.le_of_ble_eq_true rfl⟩ hl.1 (As := [.int (xs (x3 + (1 : Int32)).toNatClampNeg), .int (xs (x3 + (2 : Int32)).toNatClampNeg), .int (xs (x3 + (3 : Int32)).toNatClampNeg)]) (rest := []) rfl rfl (Nat.le_of_ble_eq_true rfl) ⟨Nat.le_refl _, Nat.le_refl _⟩ dL_law_806 (fun H locs hP hD hS => ?_)
  refine W.eq (g2 := F0 m 809 ls [.int r]) rfl ?_
  refine lv_aload_n hx hb dL_law_809 rfl (lv_at hl 1 rfl) ?_
  refine lv_aload_n hx hb dL_law_810 rfl (lv_at hl 3 rfl) ?_
  refine lv_iload_n hx hb dL_law_811 rfl (lv_at hl 0 rfl) ?_
  refine lv_iconst (v := (1 : Int32)) hx hb dL_law_812 (by decide) ?_
  refine lv_iadd hx hb dL_law_813 ?_
  refine va_sld hx hb hX hbl hbA hS h1 dL_law_814 ?_
  refine lv_aload_n hx hb dL_law_815 rfl (lv_at hl 3 rfl) ?_
  refine lv_iload_n hx hb dL_law_816 rfl (lv_at hl 0 rfl) ?_
  refine lv_iconst (v := (2 : Int32)) hx hb dL_law_817 (by decide) ?_
  refine lv_iadd hx hb dL_law_818 ?_
  refine va_sld hx hb hX hbl hbA hS h2 dL_law_819 ?_
  refine lv_aload_n hx hb dL_law_820 rfl (lv_at hl 3 rfl) ?_
  refine lv_iload_n hx hb dL_law_821 rfl (lv_at hl 0 rfl) ?_
  refine lv_iconst (v := (3 : Int32)) hx hb dL_law_822 (by decide) ?_
  refine lv_iadd hx hb dL_law_823 ?_
  refine va_sld hx hb hX hbl hbA hS h3 dL_law_824 ?_
  refine cV (X := wX3 E a n1) (Y := []) (w := (wX3 E a n1 ++ wX4 E bm m')) (w' := (wX3 E a n1 ++ wX4 E bm m1)) (q0 := 0) lk_L_91 hx hb hml hown hE hA (c_X4_fresh l E bm m' (xs (x3 + (1 : Int32)).toNatClampNeg) (xs (x3 + (2 : Int32)).toNatClampNeg) (xs (x3 + (3 : Int32)).toNatClampNeg) r m1 hf4) rfl rfl hP hD hS rfl rfl ⟨rfl, rfl, Nat.le_of_ble_eq_true rfl, Nat.le_of_ble_eq_true rfl⟩ hl.1 (As := [.int (xs (x3 + (1 : Int32)).toNatClampNeg), .int (xs (x3 + (2 : Int32)).toNatClampNeg), .int (xs (x3 + (3 : Int32)).toNatClampNeg)]) (rest := [.int r]) rfl rfl (Nat.le_of_ble_eq_true rfl) ⟨Nat.le_refl _, Nat.le_refl _⟩ dL_law_825 (fun H locs hP hD hS => ?_)
  refine W.eq (g2 := F0 m 828 ls [.int r, .int r]) rfl ?_
  refine lv_icmp_eq (tgt := 1348) hx hb dL_law_828 (by decide) (fun _ => ?_) (fun c9 => absurd rfl c9)
  exact next n1 m1 H locs ls hR1 hP hD hS hl
set_option maxHeartbeats 4000000 in
set_option maxRecDepth 100000 in
theorem law_cue {p : Program} {l : Launch} {e : Env} {s : State} {m : MethodId} {below : List Frame} {meth : Method} {c : Code} {b L : Nat} {xs : Nat → Int32} {E : EV} {a : Nat → Nat → Nat} {bm : Nat → Nat} {x3 : Int32} (C0 : lw_At p s m meth c b L xs) (hE : Ev E (fun q : Nat => s.heap.size ≤ q) s) (h1 : vp_in (x3 + (1 : Int32)) L) (h2 : vp_in (x3 + (2 : Int32)) L) (h3 : vp_in (x3 + (3 : Int32)) L) (h4 : vp_in (x3 + (4 : Int32)) L) (h5 : vp_in (x3 + (5 : Int32)) L)
    (next : ∀ (n : NS) (m' : MS) (H : Heap) (locs : List Loc) (ls : Array Slot), Rel n m' → va_P E.1 vwCl (wX3 E a n ++ wX4 E bm m') H → va_D (fun q : Nat => s.heap.size ≤ q) (wX3 E a n ++ wX4 E bm m') → va_S (fun q : Nat => s.heap.size ≤ q) s.heap H locs → lv_has ls 4 [(3, .int x3), (2, .ref (bm 0)), (1, .ref (a 8 0)), (0, .ref b)] → W p l e room_1 s m #[Value.ref b] below meth c H locs 600000 7302250 (lw_Z below #[Value.ref b] s) (F0 m 1348 ls []))
    (n : NS) (m' : MS) (H : Heap) (locs : List Loc) (ls : Array Slot) (hR : Rel n m') (hP : va_P E.1 vwCl (wX3 E a n ++ wX4 E bm m') H) (hD : va_D (fun q : Nat => s.heap.size ≤ q) (wX3 E a n ++ wX4 E bm m')) (hS : va_S (fun q : Nat => s.heap.size ≤ q) s.heap H locs) (hl : lv_has ls 4 [(3, .int x3), (2, .ref (bm 0)), (1, .ref (a 8 0)), (0, .ref b)]) : W p l e room_1 s m #[Value.ref b] below meth c H locs 600000 7302250 (lw_Z below #[Value.ref b] s) (F0 m 833 ls []) := by
  obtain ⟨hx, hb, hr, hml, hown, hts, hX, hbl, hlocks, hgv⟩ := C0
  have hA : ∀ q : Nat, s.heap.size ≤ q → (fun q : Nat => s.heap.size ≤ q) q := fun _ h => h
  have hbA : ¬ (fun q : Nat => s.heap.size ≤ q) b := Nat.not_le.mpr hbl
  refine lv_aload_n hx hb dL_law_833 rfl (lv_at hl 2 rfl) ?_
  refine lv_aload_n hx hb dL_law_834 rfl (lv_at hl 3 rfl) ?_
  refine lv_iload_n hx hb dL_law_835 rfl (lv_at hl 0 rfl) ?_
  refine lv_iconst (v := (1 : Int32)) hx hb dL_law_836 (by decide) ?_
  refine lv_iadd hx hb dL_law_837 ?_
  refine va_sld hx hb hX hbl hbA hS h1 dL_law_838 ?_
  obtain ⟨r, n1, m1, hf3, hf4, hR1⟩ := op_cue hR (xs (x3 + (1 : Int32)).toNatClampNeg)
  refine cV (X := []) (Y := wX4 E bm m') (w := (wX3 E a n ++ wX4 E bm m')) (w' := (wX3 E a n1 ++ wX4 E bm m')) (q0 := 0) lk_L_92 hx hb hml hown hE hA (c_X3_cue l E a n (xs (x3 + (1 : Int32)).toNatClampNeg) r n1 hf3) rfl rfl hP hD hS rfl rfl ⟨rfl, rfl, Nat.le_of_ble_eq_true rfl, Nat.le_of_ble_eq_true rfl⟩ hl.1 (As := [.int (xs (x3 + (1 : Int32)).toNatClampNeg)]) (rest := []) rfl rfl (Nat.le_of_ble_eq_true rfl) ⟨Nat.le_refl _, Nat.le_refl _⟩ dL_law_839 (fun H locs hP hD hS => ?_)
  refine W.eq (g2 := F0 m 842 ls [.int r]) rfl ?_
  refine lv_aload_n hx hb dL_law_842 rfl (lv_at hl 1 rfl) ?_
  refine lv_aload_n hx hb dL_law_843 rfl (lv_at hl 3 rfl) ?_
  refine lv_iload_n hx hb dL_law_844 rfl (lv_at hl 0 rfl) ?_
  refine lv_iconst (v := (1 : Int32)) hx hb dL_law_845 (by decide) ?_
  refine lv_iadd hx hb dL_law_846 ?_
  refine va_sld hx hb hX hbl hbA hS h1 dL_law_847 ?_
  refine cV (X := wX3 E a n1) (Y := []) (w := (wX3 E a n1 ++ wX4 E bm m')) (w' := (wX3 E a n1 ++ wX4 E bm m1)) (q0 := 0) lk_L_95 hx hb hml hown hE hA (c_X4_cue l E bm m' (xs (x3 + (1 : Int32)).toNatClampNeg) r m1 hf4) rfl rfl hP hD hS rfl rfl ⟨rfl, rfl, Nat.le_of_ble_eq_true rfl, Nat.le_of_ble_eq_true rfl⟩ hl.1 (As := [.int (xs (x3 + (1 : Int32)).toNatClampNeg)]) (rest := [.int r]) rfl rfl (Nat.le_of_ble_eq_true rfl) ⟨Nat.le_refl _, Nat.le_refl _⟩ dL_law_848 (fun H locs hP hD hS => ?_)
  refine W.eq (g2 := F0 m 851 ls [.int r, .int r]) rfl ?_
  refine lv_icmp_eq (tgt := 1348) hx hb dL_law_851 (by decide) (fun _ => ?_) (fun c9 => absurd rfl c9)
  exact next n1 m1 H locs ls hR1 hP hD hS hl
set_option maxHeartbeats 4000000 in
set_option maxRecDepth 100000 in
theorem law_doze {p : Program} {l : Launch} {e : Env} {s : State} {m : MethodId} {below : List Frame} {meth : Method} {c : Code} {b L : Nat} {xs : Nat → Int32} {E : EV} {a : Nat → Nat → Nat} {bm : Nat → Nat} {x3 : Int32} (C0 : lw_At p s m meth c b L xs) (hE : Ev E (fun q : Nat => s.heap.size ≤ q) s) (h1 : vp_in (x3 + (1 : Int32)) L) (h2 : vp_in (x3 + (2 : Int32)) L) (h3 : vp_in (x3 + (3 : Int32)) L) (h4 : vp_in (x3 + (4 : Int32)) L) (h5 : vp_in (x3 + (5 : Int32)) L)
    (next : ∀ (n : NS) (m' : MS) (H : Heap) (locs : List Loc) (ls : Array Slot), Rel n m' → va_P E.1 vwCl (wX3 E a n ++ wX4 E bm m') H → va_D (fun q : Nat => s.heap.size ≤ q) (wX3 E a n ++ wX4 E bm m') → va_S (fun q : Nat => s.heap.size ≤ q) s.heap H locs → lv_has ls 4 [(3, .int x3), (2, .ref (bm 0)), (1, .ref (a 8 0)), (0, .ref b)] → W p l e room_1 s m #[Value.ref b] below meth c H locs 600000 7302250 (lw_Z below #[Value.ref b] s) (F0 m 1348 ls []))
    (n : NS) (m' : MS) (H : Heap) (locs : List Loc) (ls : Array Slot) (hR : Rel n m') (hP : va_P E.1 vwCl (wX3 E a n ++ wX4 E bm m') H) (hD : va_D (fun q : Nat => s.heap.size ≤ q) (wX3 E a n ++ wX4 E bm m')) (hS : va_S (fun q : Nat => s.heap.size ≤ q) s.heap H locs) (hl : lv_has ls 4 [(3, .int x3), (2, .ref (bm 0)), (1, .ref (a 8 0)), (0, .ref b)]) : W p l e room_1 s m #[Value.ref b] below meth c H locs 600000 7302250 (lw_Z below #[Value.ref b] s) (F0 m 856 ls []) := by
  obtain ⟨hx, hb, hr, hml, hown, hts, hX, hbl, hlocks, hgv⟩ := C0
  have hA : ∀ q : Nat, s.heap.size ≤ q → (fun q : Nat => s.heap.size ≤ q) q := fun _ h => h
  have hbA : ¬ (fun q : Nat => s.heap.size ≤ q) b := Nat.not_le.mpr hbl
  refine lv_aload_n hx hb dL_law_856 rfl (lv_at hl 2 rfl) ?_
  refine lv_aload_n hx hb dL_law_857 rfl (lv_at hl 3 rfl) ?_
  refine lv_iload_n hx hb dL_law_858 rfl (lv_at hl 0 rfl) ?_
  refine lv_iconst (v := (1 : Int32)) hx hb dL_law_859 (by decide) ?_
  refine lv_iadd hx hb dL_law_860 ?_
  refine va_sld hx hb hX hbl hbA hS h1 dL_law_861 ?_
  obtain ⟨r, n1, m1, hf3, hf4, hR1⟩ := op_doze hR (xs (x3 + (1 : Int32)).toNatClampNeg)
  refine cV (X := []) (Y := wX4 E bm m') (w := (wX3 E a n ++ wX4 E bm m')) (w' := (wX3 E a n1 ++ wX4 E bm m')) (q0 := 0) lk_L_96 hx hb hml hown hE hA (c_X3_doze l E a n (xs (x3 + (1 : Int32)).toNatClampNeg) r n1 hf3) rfl rfl hP hD hS rfl rfl ⟨rfl, rfl, Nat.le_of_ble_eq_true rfl, Nat.le_of_ble_eq_true rfl⟩ hl.1 (As := [.int (xs (x3 + (1 : Int32)).toNatClampNeg)]) (rest := []) rfl rfl (Nat.le_of_ble_eq_true rfl) ⟨Nat.le_refl _, Nat.le_refl _⟩ dL_law_862 (fun H locs hP hD hS => ?_)
  refine W.eq (g2 := F0 m 865 ls [.int r]) rfl ?_
  refine lv_aload_n hx hb dL_law_865 rfl (lv_at hl 1 rfl) ?_
  refine lv_aload_n hx hb dL_law_866 rfl (lv_at hl 3 rfl) ?_
  refine lv_iload_n hx hb dL_law_867 rfl (lv_at hl 0 rfl) ?_
  refine lv_iconst (v := (1 : Int32)) hx hb dL_law_868 (by decide) ?_
  refine lv_iadd hx hb dL_law_869 ?_
  refine va_sld hx hb hX hbl hbA hS h1 dL_law_870 ?_
  refine cV (X := wX3 E a n1) (Y := []) (w := (wX3 E a n1 ++ wX4 E bm m')) (w' := (wX3 E a n1 ++ wX4 E bm m1)) (q0 := 0) lk_L_99 hx hb hml hown hE hA (c_X4_doze l E bm m' (xs (x3 + (1 : Int32)).toNatClampNeg) r m1 hf4) rfl rfl hP hD hS rfl rfl ⟨rfl, rfl, Nat.le_of_ble_eq_true rfl, Nat.le_of_ble_eq_true rfl⟩ hl.1 (As := [.int (xs (x3 + (1 : Int32)).toNatClampNeg)]) (rest := [.int r]) rfl rfl (Nat.le_of_ble_eq_true rfl) ⟨Nat.le_refl _, Nat.le_refl _⟩ dL_law_871 (fun H locs hP hD hS => ?_)
  refine W.eq (g2 := F0 m 874 ls [.int r, .int r]) rfl ?_
  refine lv_icmp_eq (tgt := 1348) hx hb dL_law_874 (by decide) (fun _ => ?_) (fun c9 => absurd rfl c9)
  exact next n1 m1 H locs ls hR1 hP hD hS hl
set_option maxHeartbeats 4000000 in
set_option maxRecDepth 100000 in
theorem law_tense {p : Program} {l : Launch} {e : Env} {s : State} {m : MethodId} {below : List Frame} {meth : Method} {c : Code} {b L : Nat} {xs : Nat → Int32} {E : EV} {a : Nat → Nat → Nat} {bm : Nat → Nat} {x3 : Int32} (C0 : lw_At p s m meth c b L xs) (hE : Ev E (fun q : Nat => s.heap.size ≤ q) s) (h1 : vp_in (x3 + (1 : Int32)) L) (h2 : vp_in (x3 + (2 : Int32)) L) (h3 : vp_in (x3 + (3 : Int32)) L) (h4 : vp_in (x3 + (4 : Int32)) L) (h5 : vp_in (x3 + (5 : Int32)) L)
    (next : ∀ (n : NS) (m' : MS) (H : Heap) (locs : List Loc) (ls : Array Slot), Rel n m' → va_P E.1 vwCl (wX3 E a n ++ wX4 E bm m') H → va_D (fun q : Nat => s.heap.size ≤ q) (wX3 E a n ++ wX4 E bm m') → va_S (fun q : Nat => s.heap.size ≤ q) s.heap H locs → lv_has ls 4 [(3, .int x3), (2, .ref (bm 0)), (1, .ref (a 8 0)), (0, .ref b)] → W p l e room_1 s m #[Value.ref b] below meth c H locs 600000 7302250 (lw_Z below #[Value.ref b] s) (F0 m 1348 ls []))
    (n : NS) (m' : MS) (H : Heap) (locs : List Loc) (ls : Array Slot) (hR : Rel n m') (hP : va_P E.1 vwCl (wX3 E a n ++ wX4 E bm m') H) (hD : va_D (fun q : Nat => s.heap.size ≤ q) (wX3 E a n ++ wX4 E bm m')) (hS : va_S (fun q : Nat => s.heap.size ≤ q) s.heap H locs) (hl : lv_has ls 4 [(3, .int x3), (2, .ref (bm 0)), (1, .ref (a 8 0)), (0, .ref b)]) : W p l e room_1 s m #[Value.ref b] below meth c H locs 600000 7302250 (lw_Z below #[Value.ref b] s) (F0 m 879 ls []) := by
  obtain ⟨hx, hb, hr, hml, hown, hts, hX, hbl, hlocks, hgv⟩ := C0
  have hA : ∀ q : Nat, s.heap.size ≤ q → (fun q : Nat => s.heap.size ≤ q) q := fun _ h => h
  have hbA : ¬ (fun q : Nat => s.heap.size ≤ q) b := Nat.not_le.mpr hbl
  refine lv_aload_n hx hb dL_law_879 rfl (lv_at hl 2 rfl) ?_
  refine lv_aload_n hx hb dL_law_880 rfl (lv_at hl 3 rfl) ?_
  refine lv_iload_n hx hb dL_law_881 rfl (lv_at hl 0 rfl) ?_
  refine lv_iconst (v := (1 : Int32)) hx hb dL_law_882 (by decide) ?_
  refine lv_iadd hx hb dL_law_883 ?_
  refine va_sld hx hb hX hbl hbA hS h1 dL_law_884 ?_
  refine lv_aload_n hx hb dL_law_885 rfl (lv_at hl 3 rfl) ?_
  refine lv_iload_n hx hb dL_law_886 rfl (lv_at hl 0 rfl) ?_
  refine lv_iconst (v := (2 : Int32)) hx hb dL_law_887 (by decide) ?_
  refine lv_iadd hx hb dL_law_888 ?_
  refine va_sld hx hb hX hbl hbA hS h2 dL_law_889 ?_
  obtain ⟨r, n1, m1, hf3, hf4, hR1⟩ := op_tense hR (xs (x3 + (1 : Int32)).toNatClampNeg) (xs (x3 + (2 : Int32)).toNatClampNeg)
  refine cV (X := []) (Y := wX4 E bm m') (w := (wX3 E a n ++ wX4 E bm m')) (w' := (wX3 E a n1 ++ wX4 E bm m')) (q0 := 0) lk_L_100 hx hb hml hown hE hA (c_X3_tense l E a n (xs (x3 + (1 : Int32)).toNatClampNeg) (xs (x3 + (2 : Int32)).toNatClampNeg) r n1 hf3) rfl rfl hP hD hS rfl rfl ⟨rfl, rfl, Nat.le_of_ble_eq_true rfl, Nat.le_of_ble_eq_true rfl⟩ hl.1 (As := [.int (xs (x3 + (1 : Int32)).toNatClampNeg), .int (xs (x3 + (2 : Int32)).toNatClampNeg)]) (rest := []) rfl rfl (Nat.le_of_ble_eq_true rfl) ⟨Nat.le_refl _, Nat.le_refl _⟩ dL_law_890 (fun H locs hP hD hS => ?_)
  refine W.eq (g2 := F0 m 893 ls [.int r]) rfl ?_
  refine lv_aload_n hx hb dL_law_893 rfl (lv_at hl 1 rfl) ?_
  refine lv_aload_n hx hb dL_law_894 rfl (lv_at hl 3 rfl) ?_
  refine lv_iload_n hx hb dL_law_895 rfl (lv_at hl 0 rfl) ?_
  refine lv_iconst (v := (1 : Int32)) hx hb dL_law_896 (by decide) ?_
  refine lv_iadd hx hb dL_law_897 ?_
  refine va_sld hx hb hX hbl hbA hS h1 dL_law_898 ?_
  refine lv_aload_n hx hb dL_law_899 rfl (lv_at hl 3 rfl) ?_
  refine lv_iload_n hx hb dL_law_900 rfl (lv_at hl 0 rfl) ?_
  refine lv_iconst (v := (2 : Int32)) hx hb dL_law_901 (by decide) ?_
  refine lv_iadd hx hb dL_law_902 ?_
  refine va_sld hx hb hX hbl hbA hS h2 dL_law_903 ?_
  refine cV (X := wX3 E a n1) (Y := []) (w := (wX3 E a n1 ++ wX4 E bm m')) (w' := (wX3 E a n1 ++ wX4 E bm m1)) (q0 := 0) lk_L_103 hx hb hml hown hE hA (c_X4_tense l E bm m' (xs (x3 + (1 : Int32)).toNatClampNeg) (xs (x3 + (2 : Int32)).toNatClampNeg) r m1 hf4) rfl rfl hP hD hS rfl rfl ⟨rfl, rfl, Nat.le_of_ble_eq_true rfl, Nat.le_of_ble_eq_true rfl⟩ hl.1 (As := [.int (xs (x3 + (1 : Int32)).toNatClampNeg), .int (xs (x3 + (2 : Int32)).toNatClampNeg)]) (rest := [.int r]) rfl rfl (Nat.le_of_ble_eq_true rfl) ⟨Nat.le_refl _, Nat.le_refl _⟩ dL_law_904 (fun H locs hP hD hS => ?_)
  refine W.eq (g2 := F0 m 907 ls [.int r, .int r]) rfl ?_
  refine lv_icmp_eq (tgt := 1348) hx hb dL_law_907 (by decide) (fun _ => ?_) (fun c9 => absurd rfl c9)
  exact next n1 m1 H locs ls hR1 hP hD hS hl
set_option maxHeartbeats 4000000 in
set_option maxRecDepth 100000 in
theorem law_best {p : Program} {l : Launch} {e : Env} {s : State} {m : MethodId} {below : List Frame} {meth : Method} {c : Code} {b L : Nat} {xs : Nat → Int32} {E : EV} {a : Nat → Nat → Nat} {bm : Nat → Nat} {x3 : Int32} (C0 : lw_At p s m meth c b L xs) (hE : Ev E (fun q : Nat => s.heap.size ≤ q) s) (h1 : vp_in (x3 + (1 : Int32)) L) (h2 : vp_in (x3 + (2 : Int32)) L) (h3 : vp_in (x3 + (3 : Int32)) L) (h4 : vp_in (x3 + (4 : Int32)) L) (h5 : vp_in (x3 + (5 : Int32)) L)
    (next : ∀ (n : NS) (m' : MS) (H : Heap) (locs : List Loc) (ls : Array Slot), Rel n m' → va_P E.1 vwCl (wX3 E a n ++ wX4 E bm m') H → va_D (fun q : Nat => s.heap.size ≤ q) (wX3 E a n ++ wX4 E bm m') → va_S (fun q : Nat => s.heap.size ≤ q) s.heap H locs → lv_has ls 4 [(3, .int x3), (2, .ref (bm 0)), (1, .ref (a 8 0)), (0, .ref b)] → W p l e room_1 s m #[Value.ref b] below meth c H locs 600000 7302250 (lw_Z below #[Value.ref b] s) (F0 m 1348 ls []))
    (n : NS) (m' : MS) (H : Heap) (locs : List Loc) (ls : Array Slot) (hR : Rel n m') (hP : va_P E.1 vwCl (wX3 E a n ++ wX4 E bm m') H) (hD : va_D (fun q : Nat => s.heap.size ≤ q) (wX3 E a n ++ wX4 E bm m')) (hS : va_S (fun q : Nat => s.heap.size ≤ q) s.heap H locs) (hl : lv_has ls 4 [(3, .int x3), (2, .ref (bm 0)), (1, .ref (a 8 0)), (0, .ref b)]) : W p l e room_1 s m #[Value.ref b] below meth c H locs 600000 7302250 (lw_Z below #[Value.ref b] s) (F0 m 912 ls []) := by
  obtain ⟨hx, hb, hr, hml, hown, hts, hX, hbl, hlocks, hgv⟩ := C0
  have hA : ∀ q : Nat, s.heap.size ≤ q → (fun q : Nat => s.heap.size ≤ q) q := fun _ h => h
  have hbA : ¬ (fun q : Nat => s.heap.size ≤ q) b := Nat.not_le.mpr hbl
  refine lv_aload_n hx hb dL_law_912 rfl (lv_at hl 2 rfl) ?_
  refine lv_aload_n hx hb dL_law_913 rfl (lv_at hl 3 rfl) ?_
  refine lv_iload_n hx hb dL_law_914 rfl (lv_at hl 0 rfl) ?_
  refine lv_iconst (v := (1 : Int32)) hx hb dL_law_915 (by decide) ?_
  refine lv_iadd hx hb dL_law_916 ?_
  refine va_sld hx hb hX hbl hbA hS h1 dL_law_917 ?_
  obtain ⟨r, n1, m1, hf3, hf4, hR1⟩ := op_best hR (xs (x3 + (1 : Int32)).toNatClampNeg)
  refine cV (X := []) (Y := wX4 E bm m') (w := (wX3 E a n ++ wX4 E bm m')) (w' := (wX3 E a n1 ++ wX4 E bm m')) (q0 := 0) lk_L_104 hx hb hml hown hE hA (c_X3_best l E a n (xs (x3 + (1 : Int32)).toNatClampNeg) r n1 hf3) rfl rfl hP hD hS rfl rfl ⟨rfl, rfl, Nat.le_of_ble_eq_true rfl, Nat.le_of_ble_eq_true rfl⟩ hl.1 (As := [.int (xs (x3 + (1 : Int32)).toNatClampNeg)]) (rest := []) rfl rfl (Nat.le_of_ble_eq_true rfl) ⟨Nat.le_refl _, Nat.le_refl _⟩ dL_law_918 (fun H locs hP hD hS => ?_)
  refine W.eq (g2 := F0 m 921 ls [.int r]) rfl ?_
  refine lv_aload_n hx hb dL_law_921 rfl (lv_at hl 1 rfl) ?_
  refine lv_aload_n hx hb dL_law_922 rfl (lv_at hl 3 rfl) ?_
  refine lv_iload_n hx hb dL_law_923 rfl (lv_at hl 0 rfl) ?_
  refine lv_iconst (v := (1 : Int32)) hx hb dL_law_924 (by decide) ?_
  refine lv_iadd hx hb dL_law_925 ?_
  refine va_sld hx hb hX hbl hbA hS h1 dL_law_926 ?_
  refine cV (X := wX3 E a n1) (Y := []) (w := (wX3 E a n1 ++ wX4 E bm m')) (w' := (wX3 E a n1 ++ wX4 E bm m1)) (q0 := 0) lk_L_107 hx hb hml hown hE hA (c_X4_best l E bm m' (xs (x3 + (1 : Int32)).toNatClampNeg) r m1 hf4) rfl rfl hP hD hS rfl rfl ⟨rfl, rfl, Nat.le_of_ble_eq_true rfl, Nat.le_of_ble_eq_true rfl⟩ hl.1 (As := [.int (xs (x3 + (1 : Int32)).toNatClampNeg)]) (rest := [.int r]) rfl rfl (Nat.le_of_ble_eq_true rfl) ⟨Nat.le_refl _, Nat.le_refl _⟩ dL_law_927 (fun H locs hP hD hS => ?_)
  refine W.eq (g2 := F0 m 930 ls [.int r, .int r]) rfl ?_
  refine lv_icmp_eq (tgt := 1348) hx hb dL_law_930 (by decide) (fun _ => ?_) (fun c9 => absurd rfl c9)
  exact next n1 m1 H locs ls hR1 hP hD hS hl
set_option maxHeartbeats 4000000 in
set_option maxRecDepth 100000 in
theorem law_feed {p : Program} {l : Launch} {e : Env} {s : State} {m : MethodId} {below : List Frame} {meth : Method} {c : Code} {b L : Nat} {xs : Nat → Int32} {E : EV} {a : Nat → Nat → Nat} {bm : Nat → Nat} {x3 : Int32} (C0 : lw_At p s m meth c b L xs) (hE : Ev E (fun q : Nat => s.heap.size ≤ q) s) (h1 : vp_in (x3 + (1 : Int32)) L) (h2 : vp_in (x3 + (2 : Int32)) L) (h3 : vp_in (x3 + (3 : Int32)) L) (h4 : vp_in (x3 + (4 : Int32)) L) (h5 : vp_in (x3 + (5 : Int32)) L)
    (next : ∀ (n : NS) (m' : MS) (H : Heap) (locs : List Loc) (ls : Array Slot), Rel n m' → va_P E.1 vwCl (wX3 E a n ++ wX4 E bm m') H → va_D (fun q : Nat => s.heap.size ≤ q) (wX3 E a n ++ wX4 E bm m') → va_S (fun q : Nat => s.heap.size ≤ q) s.heap H locs → lv_has ls 4 [(3, .int x3), (2, .ref (bm 0)), (1, .ref (a 8 0)), (0, .ref b)] → W p l e room_1 s m #[Value.ref b] below meth c H locs 600000 7302250 (lw_Z below #[Value.ref b] s) (F0 m 1348 ls []))
    (n : NS) (m' : MS) (H : Heap) (locs : List Loc) (ls : Array Slot) (hR : Rel n m') (hP : va_P E.1 vwCl (wX3 E a n ++ wX4 E bm m') H) (hD : va_D (fun q : Nat => s.heap.size ≤ q) (wX3 E a n ++ wX4 E bm m')) (hS : va_S (fun q : Nat => s.heap.size ≤ q) s.heap H locs) (hl : lv_has ls 4 [(3, .int x3), (2, .ref (bm 0)), (1, .ref (a 8 0)), (0, .ref b)]) : W p l e room_1 s m #[Value.ref b] below meth c H locs 600000 7302250 (lw_Z below #[Value.ref b] s) (F0 m 935 ls []) := by
  obtain ⟨hx, hb, hr, hml, hown, hts, hX, hbl, hlocks, hgv⟩ := C0
  have hA : ∀ q : Nat, s.heap.size ≤ q → (fun q : Nat => s.heap.size ≤ q) q := fun _ h => h
  have hbA : ¬ (fun q : Nat => s.heap.size ≤ q) b := Nat.not_le.mpr hbl
  refine lv_aload_n hx hb dL_law_935 rfl (lv_at hl 2 rfl) ?_
  refine lv_aload_n hx hb dL_law_936 rfl (lv_at hl 3 rfl) ?_
  refine lv_iload_n hx hb dL_law_937 rfl (lv_at hl 0 rfl) ?_
  refine lv_iconst (v := (1 : Int32)) hx hb dL_law_938 (by decide) ?_
  refine lv_iadd hx hb dL_law_939 ?_
  refine va_sld hx hb hX hbl hbA hS h1 dL_law_940 ?_
  refine lv_aload_n hx hb dL_law_941 rfl (lv_at hl 3 rfl) ?_
  refine lv_iload_n hx hb dL_law_942 rfl (lv_at hl 0 rfl) ?_
  refine lv_iconst (v := (2 : Int32)) hx hb dL_law_943 (by decide) ?_
  refine lv_iadd hx hb dL_law_944 ?_
  refine va_sld hx hb hX hbl hbA hS h2 dL_law_945 ?_
  obtain ⟨r, n1, m1, hf3, hf4, hR1⟩ := op_feed hR (xs (x3 + (1 : Int32)).toNatClampNeg) (xs (x3 + (2 : Int32)).toNatClampNeg)
  refine cV (X := []) (Y := wX4 E bm m') (w := (wX3 E a n ++ wX4 E bm m')) (w' := (wX3 E a n1 ++ wX4 E bm m')) (q0 := 0) lk_L_108 hx hb hml hown hE hA (c_X3_feed l E a n (xs (x3 + (1 : Int32)).toNatClampNeg) (xs (x3 + (2 : Int32)).toNatClampNeg) r n1 hf3) rfl rfl hP hD hS rfl rfl ⟨rfl, rfl, Nat.le_of_ble_eq_true rfl, Nat.le_of_ble_eq_true rfl⟩ hl.1 (As := [.int (xs (x3 + (1 : Int32)).toNatClampNeg), .int (xs (x3 + (2 : Int32)).toNatClampNeg)]) (rest := []) rfl rfl (Nat.le_of_ble_eq_true rfl) ⟨Nat.le_refl _, Nat.le_refl _⟩ dL_law_946 (fun H locs hP hD hS => ?_)
  refine W.eq (g2 := F0 m 949 ls [.int r]) rfl ?_
  refine lv_aload_n hx hb dL_law_949 rfl (lv_at hl 1 rfl) ?_
  refine lv_aload_n hx hb dL_law_950 rfl (lv_at hl 3 rfl) ?_
  refine lv_iload_n hx hb dL_law_951 rfl (lv_at hl 0 rfl) ?_
  refine lv_iconst (v := (1 : Int32)) hx hb dL_law_952 (by decide) ?_
  refine lv_iadd hx hb dL_law_953 ?_
  refine va_sld hx hb hX hbl hbA hS h1 dL_law_954 ?_
  refine lv_aload_n hx hb dL_law_955 rfl (lv_at hl 3 rfl) ?_
  refine lv_iload_n hx hb dL_law_956 rfl (lv_at hl 0 rfl) ?_
  refine lv_iconst (v := (2 : Int32)) hx hb dL_law_957 (by decide) ?_
  refine lv_iadd hx hb dL_law_958 ?_
  refine va_sld hx hb hX hbl hbA hS h2 dL_law_959 ?_
  refine cV (X := wX3 E a n1) (Y := []) (w := (wX3 E a n1 ++ wX4 E bm m')) (w' := (wX3 E a n1 ++ wX4 E bm m1)) (q0 := 0) lk_L_111 hx hb hml hown hE hA (c_X4_feed l E bm m' (xs (x3 + (1 : Int32)).toNatClampNeg) (xs (x3 + (2 : Int32)).toNatClampNeg) r m1 hf4) rfl rfl hP hD hS rfl rfl ⟨rfl, rfl, Nat.le_of_ble_eq_true rfl, Nat.le_of_ble_eq_true rfl⟩ hl.1 (As := [.int (xs (x3 + (1 : Int32)).toNatClampNeg), .int (xs (x3 + (2 : Int32)).toNatClampNeg)]) (rest := [.int r]) rfl rfl (Nat.le_of_ble_eq_true rfl) ⟨Nat.le_refl _, Nat.le_refl _⟩ dL_law_960 (fun H locs hP hD hS => ?_)
  refine W.eq (g2 := F0 m 963 ls [.int r, .int r]) rfl ?_
  refine lv_icmp_eq (tgt := 1348) hx hb dL_law_963 (by decide) (fun _ => ?_) (fun c9 => absurd rfl c9)
  exact next n1 m1 H locs ls hR1 hP hD hS hl
set_option maxHeartbeats 4000000 in
set_option maxRecDepth 100000 in
theorem law_wipe {p : Program} {l : Launch} {e : Env} {s : State} {m : MethodId} {below : List Frame} {meth : Method} {c : Code} {b L : Nat} {xs : Nat → Int32} {E : EV} {a : Nat → Nat → Nat} {bm : Nat → Nat} {x3 : Int32} (C0 : lw_At p s m meth c b L xs) (hE : Ev E (fun q : Nat => s.heap.size ≤ q) s) (h1 : vp_in (x3 + (1 : Int32)) L) (h2 : vp_in (x3 + (2 : Int32)) L) (h3 : vp_in (x3 + (3 : Int32)) L) (h4 : vp_in (x3 + (4 : Int32)) L) (h5 : vp_in (x3 + (5 : Int32)) L)
    (next : ∀ (n : NS) (m' : MS) (H : Heap) (locs : List Loc) (ls : Array Slot), Rel n m' → va_P E.1 vwCl (wX3 E a n ++ wX4 E bm m') H → va_D (fun q : Nat => s.heap.size ≤ q) (wX3 E a n ++ wX4 E bm m') → va_S (fun q : Nat => s.heap.size ≤ q) s.heap H locs → lv_has ls 4 [(3, .int x3), (2, .ref (bm 0)), (1, .ref (a 8 0)), (0, .ref b)] → W p l e room_1 s m #[Value.ref b] below meth c H locs 600000 7302250 (lw_Z below #[Value.ref b] s) (F0 m 1348 ls []))
    (n : NS) (m' : MS) (H : Heap) (locs : List Loc) (ls : Array Slot) (hR : Rel n m') (hP : va_P E.1 vwCl (wX3 E a n ++ wX4 E bm m') H) (hD : va_D (fun q : Nat => s.heap.size ≤ q) (wX3 E a n ++ wX4 E bm m')) (hS : va_S (fun q : Nat => s.heap.size ≤ q) s.heap H locs) (hl : lv_has ls 4 [(3, .int x3), (2, .ref (bm 0)), (1, .ref (a 8 0)), (0, .ref b)]) : W p l e room_1 s m #[Value.ref b] below meth c H locs 600000 7302250 (lw_Z below #[Value.ref b] s) (F0 m 968 ls []) := by
  obtain ⟨hx, hb, hr, hml, hown, hts, hX, hbl, hlocks, hgv⟩ := C0
  have hA : ∀ q : Nat, s.heap.size ≤ q → (fun q : Nat => s.heap.size ≤ q) q := fun _ h => h
  have hbA : ¬ (fun q : Nat => s.heap.size ≤ q) b := Nat.not_le.mpr hbl
  refine lv_aload_n hx hb dL_law_968 rfl (lv_at hl 2 rfl) ?_
  obtain ⟨r, n1, m1, hf3, hf4, hR1⟩ := op_wipe hR 
  refine cV (X := []) (Y := wX4 E bm m') (w := (wX3 E a n ++ wX4 E bm m')) (w' := (wX3 E a n1 ++ wX4 E bm m')) (q0 := 0) lk_L_112 hx hb hml hown hE hA (c_X3_wipe l E a n  r n1 hf3) rfl rfl hP hD hS rfl rfl ⟨rfl, rfl, Nat.le_of_ble_eq_true rfl, Nat.le_of_ble_eq_true rfl⟩ hl.1 (As := []) (rest := []) rfl rfl (Nat.le_of_ble_eq_true rfl) ⟨Nat.le_refl _, Nat.le_refl _⟩ dL_law_969 (fun H locs hP hD hS => ?_)
  refine W.eq (g2 := F0 m 972 ls [.int r]) rfl ?_
  refine lv_aload_n hx hb dL_law_972 rfl (lv_at hl 1 rfl) ?_
  refine cV (X := wX3 E a n1) (Y := []) (w := (wX3 E a n1 ++ wX4 E bm m')) (w' := (wX3 E a n1 ++ wX4 E bm m1)) (q0 := 0) lk_L_116 hx hb hml hown hE hA (c_X4_wipe l E bm m'  r m1 hf4) rfl rfl hP hD hS rfl rfl ⟨rfl, rfl, Nat.le_of_ble_eq_true rfl, Nat.le_of_ble_eq_true rfl⟩ hl.1 (As := []) (rest := [.int r]) rfl rfl (Nat.le_of_ble_eq_true rfl) ⟨Nat.le_refl _, Nat.le_refl _⟩ dL_law_973 (fun H locs hP hD hS => ?_)
  refine W.eq (g2 := F0 m 976 ls [.int r, .int r]) rfl ?_
  refine lv_icmp_eq (tgt := 1348) hx hb dL_law_976 (by decide) (fun _ => ?_) (fun c9 => absurd rfl c9)
  exact next n1 m1 H locs ls hR1 hP hD hS hl
set_option maxHeartbeats 4000000 in
set_option maxRecDepth 100000 in
theorem law_evening {p : Program} {l : Launch} {e : Env} {s : State} {m : MethodId} {below : List Frame} {meth : Method} {c : Code} {b L : Nat} {xs : Nat → Int32} {E : EV} {a : Nat → Nat → Nat} {bm : Nat → Nat} {x3 : Int32} (C0 : lw_At p s m meth c b L xs) (hE : Ev E (fun q : Nat => s.heap.size ≤ q) s) (h1 : vp_in (x3 + (1 : Int32)) L) (h2 : vp_in (x3 + (2 : Int32)) L) (h3 : vp_in (x3 + (3 : Int32)) L) (h4 : vp_in (x3 + (4 : Int32)) L) (h5 : vp_in (x3 + (5 : Int32)) L)
    (next : ∀ (n : NS) (m' : MS) (H : Heap) (locs : List Loc) (ls : Array Slot), Rel n m' → va_P E.1 vwCl (wX3 E a n ++ wX4 E bm m') H → va_D (fun q : Nat => s.heap.size ≤ q) (wX3 E a n ++ wX4 E bm m') → va_S (fun q : Nat => s.heap.size ≤ q) s.heap H locs → lv_has ls 4 [(3, .int x3), (2, .ref (bm 0)), (1, .ref (a 8 0)), (0, .ref b)] → W p l e room_1 s m #[Value.ref b] below meth c H locs 600000 7302250 (lw_Z below #[Value.ref b] s) (F0 m 1348 ls []))
    (n : NS) (m' : MS) (H : Heap) (locs : List Loc) (ls : Array Slot) (hR : Rel n m') (hP : va_P E.1 vwCl (wX3 E a n ++ wX4 E bm m') H) (hD : va_D (fun q : Nat => s.heap.size ≤ q) (wX3 E a n ++ wX4 E bm m')) (hS : va_S (fun q : Nat => s.heap.size ≤ q) s.heap H locs) (hl : lv_has ls 4 [(3, .int x3), (2, .ref (bm 0)), (1, .ref (a 8 0)), (0, .ref b)]) : W p l e room_1 s m #[Value.ref b] below meth c H locs 600000 7302250 (lw_Z below #[Value.ref b] s) (F0 m 981 ls []) := by
  obtain ⟨hx, hb, hr, hml, hown, hts, hX, hbl, hlocks, hgv⟩ := C0
  have hA : ∀ q : Nat, s.heap.size ≤ q → (fun q : Nat => s.heap.size ≤ q) q := fun _ h => h
  have hbA : ¬ (fun q : Nat => s.heap.size ≤ q) b := Nat.not_le.mpr hbl
  refine lv_aload_n hx hb dL_law_981 rfl (lv_at hl 2 rfl) ?_
  obtain ⟨r, n1, m1, hf3, hf4, hR1⟩ := op_evening hR 
  refine cV (X := []) (Y := wX4 E bm m') (w := (wX3 E a n ++ wX4 E bm m')) (w' := (wX3 E a n1 ++ wX4 E bm m')) (q0 := 0) lk_L_117 hx hb hml hown hE hA (c_X3_evening l E a n  r n1 hf3) rfl rfl hP hD hS rfl rfl ⟨rfl, rfl, Nat.le_of_ble_eq_true rfl, Nat.le_of_ble_eq_true rfl⟩ hl.1 (As := []) (rest := []) rfl rfl (Nat.le_of_ble_eq_true rfl) ⟨Nat.le_refl _, Nat.le_refl _⟩ dL_law_982 (fun H locs hP hD hS => ?_)
  refine W.eq (g2 := F0 m 985 ls [.int r]) rfl ?_
  refine lv_aload_n hx hb dL_law_985 rfl (lv_at hl 1 rfl) ?_
  refine cV (X := wX3 E a n1) (Y := []) (w := (wX3 E a n1 ++ wX4 E bm m')) (w' := (wX3 E a n1 ++ wX4 E bm m1)) (q0 := 0) lk_L_120 hx hb hml hown hE hA (c_X4_evening l E bm m'  r m1 hf4) rfl rfl hP hD hS rfl rfl ⟨rfl, rfl, Nat.le_of_ble_eq_true rfl, Nat.le_of_ble_eq_true rfl⟩ hl.1 (As := []) (rest := [.int r]) rfl rfl (Nat.le_of_ble_eq_true rfl) ⟨Nat.le_refl _, Nat.le_refl _⟩ dL_law_986 (fun H locs hP hD hS => ?_)
  refine W.eq (g2 := F0 m 989 ls [.int r, .int r]) rfl ?_
  refine lv_icmp_eq (tgt := 1348) hx hb dL_law_989 (by decide) (fun _ => ?_) (fun c9 => absurd rfl c9)
  exact next n1 m1 H locs ls hR1 hP hD hS hl
set_option maxHeartbeats 4000000 in
set_option maxRecDepth 100000 in
theorem law_sheet {p : Program} {l : Launch} {e : Env} {s : State} {m : MethodId} {below : List Frame} {meth : Method} {c : Code} {b L : Nat} {xs : Nat → Int32} {E : EV} {a : Nat → Nat → Nat} {bm : Nat → Nat} {x3 : Int32} (C0 : lw_At p s m meth c b L xs) (hE : Ev E (fun q : Nat => s.heap.size ≤ q) s) (h1 : vp_in (x3 + (1 : Int32)) L) (h2 : vp_in (x3 + (2 : Int32)) L) (h3 : vp_in (x3 + (3 : Int32)) L) (h4 : vp_in (x3 + (4 : Int32)) L) (h5 : vp_in (x3 + (5 : Int32)) L)
    (next : ∀ (n : NS) (m' : MS) (H : Heap) (locs : List Loc) (ls : Array Slot), Rel n m' → va_P E.1 vwCl (wX3 E a n ++ wX4 E bm m') H → va_D (fun q : Nat => s.heap.size ≤ q) (wX3 E a n ++ wX4 E bm m') → va_S (fun q : Nat => s.heap.size ≤ q) s.heap H locs → lv_has ls 4 [(3, .int x3), (2, .ref (bm 0)), (1, .ref (a 8 0)), (0, .ref b)] → W p l e room_1 s m #[Value.ref b] below meth c H locs 600000 7302250 (lw_Z below #[Value.ref b] s) (F0 m 1348 ls []))
    (n : NS) (m' : MS) (H : Heap) (locs : List Loc) (ls : Array Slot) (hR : Rel n m') (hP : va_P E.1 vwCl (wX3 E a n ++ wX4 E bm m') H) (hD : va_D (fun q : Nat => s.heap.size ≤ q) (wX3 E a n ++ wX4 E bm m')) (hS : va_S (fun q : Nat => s.heap.size ≤ q) s.heap H locs) (hl : lv_has ls 4 [(3, .int x3), (2, .ref (bm 0)), (1, .ref (a 8 0)), (0, .ref b)]) : W p l e room_1 s m #[Value.ref b] below meth c H locs 600000 7302250 (lw_Z below #[Value.ref b] s) (F0 m 994 ls []) := by
  obtain ⟨hx, hb, hr, hml, hown, hts, hX, hbl, hlocks, hgv⟩ := C0
  have hA : ∀ q : Nat, s.heap.size ≤ q → (fun q : Nat => s.heap.size ≤ q) q := fun _ h => h
  have hbA : ¬ (fun q : Nat => s.heap.size ≤ q) b := Nat.not_le.mpr hbl
  refine lv_aload_n hx hb dL_law_994 rfl (lv_at hl 2 rfl) ?_
  refine lv_aload_n hx hb dL_law_995 rfl (lv_at hl 3 rfl) ?_
  refine lv_iload_n hx hb dL_law_996 rfl (lv_at hl 0 rfl) ?_
  refine lv_iconst (v := (1 : Int32)) hx hb dL_law_997 (by decide) ?_
  refine lv_iadd hx hb dL_law_998 ?_
  refine va_sld hx hb hX hbl hbA hS h1 dL_law_999 ?_
  refine lv_aload_n hx hb dL_law_1000 rfl (lv_at hl 3 rfl) ?_
  refine lv_iload_n hx hb dL_law_1001 rfl (lv_at hl 0 rfl) ?_
  refine lv_iconst (v := (2 : Int32)) hx hb dL_law_1002 (by decide) ?_
  refine lv_iadd hx hb dL_law_1003 ?_
  refine va_sld hx hb hX hbl hbA hS h2 dL_law_1004 ?_
  refine lv_aload_n hx hb dL_law_1005 rfl (lv_at hl 3 rfl) ?_
  refine lv_iload_n hx hb dL_law_1006 rfl (lv_at hl 0 rfl) ?_
  refine lv_iconst (v := (3 : Int32)) hx hb dL_law_1007 (by decide) ?_
  refine lv_iadd hx hb dL_law_1008 ?_
  refine va_sld hx hb hX hbl hbA hS h3 dL_law_1009 ?_
  obtain ⟨r, n1, m1, hf3, hf4, hR1⟩ := op_sheet hR (xs (x3 + (1 : Int32)).toNatClampNeg) (xs (x3 + (2 : Int32)).toNatClampNeg) (xs (x3 + (3 : Int32)).toNatClampNeg)
  refine cV (X := []) (Y := wX4 E bm m') (w := (wX3 E a n ++ wX4 E bm m')) (w' := (wX3 E a n1 ++ wX4 E bm m')) (q0 := 0) lk_L_121 hx hb hml hown hE hA (c_X3_sheet l E a n (xs (x3 + (1 : Int32)).toNatClampNeg) (xs (x3 + (2 : Int32)).toNatClampNeg) (xs (x3 + (3 : Int32)).toNatClampNeg) r n1 hf3) rfl rfl hP hD hS rfl rfl ⟨rfl, rfl, Nat.le_of_ble_eq_true rfl, Nat.le_of_ble_eq_true rfl⟩ hl.1 (As := [.int (xs (x3 + (1 : Int32)).toNatClampNeg), .int (xs (x3 + (2 : Int32)).toNatClampNeg), .int (xs (x3 + (3 : Int32)).toNatClampNeg)]) (rest := []) rfl rfl (Nat.le_of_ble_eq_true rfl) ⟨Nat.le_refl _, Nat.le_refl _⟩ dL_law_1010 (fun H locs hP hD hS => ?_)
  refine W.eq (g2 := F0 m 1013 ls [.int r]) rfl ?_
  refine lv_aload_n hx hb dL_law_1013 rfl (lv_at hl 1 rfl) ?_
  refine lv_aload_n hx hb dL_law_1014 rfl (lv_at hl 3 rfl) ?_
  refine lv_iload_n hx hb dL_law_1015 rfl (lv_at hl 0 rfl) ?_
  refine lv_iconst (v := (1 : Int32)) hx hb dL_law_1016 (by decide) ?_
  refine lv_iadd hx hb dL_law_1017 ?_
  refine va_sld hx hb hX hbl hbA hS h1 dL_law_1018 ?_
  refine lv_aload_n hx hb dL_law_1019 rfl (lv_at hl 3 rfl) ?_
  refine lv_iload_n hx hb dL_law_1020 rfl (lv_at hl 0 rfl) ?_
  refine lv_iconst (v := (2 : Int32)) hx hb dL_law_1021 (by decide) ?_
  refine lv_iadd hx hb dL_law_1022 ?_
  refine va_sld hx hb hX hbl hbA hS h2 dL_law_1023 ?_
  refine lv_aload_n hx hb dL_law_1024 rfl (lv_at hl 3 rfl) ?_
  refine lv_iload_n hx hb dL_law_1025 rfl (lv_at hl 0 rfl) ?_
  refine lv_iconst (v := (3 : Int32)) hx hb dL_law_1026 (by decide) ?_
  refine lv_iadd hx hb dL_law_1027 ?_
  refine va_sld hx hb hX hbl hbA hS h3 dL_law_1028 ?_
  refine cV (X := wX3 E a n1) (Y := []) (w := (wX3 E a n1 ++ wX4 E bm m')) (w' := (wX3 E a n1 ++ wX4 E bm m1)) (q0 := 0) lk_L_124 hx hb hml hown hE hA (c_X4_sheet l E bm m' (xs (x3 + (1 : Int32)).toNatClampNeg) (xs (x3 + (2 : Int32)).toNatClampNeg) (xs (x3 + (3 : Int32)).toNatClampNeg) r m1 hf4) rfl rfl hP hD hS rfl rfl ⟨rfl, rfl, Nat.le_of_ble_eq_true rfl, Nat.le_of_ble_eq_true rfl⟩ hl.1 (As := [.int (xs (x3 + (1 : Int32)).toNatClampNeg), .int (xs (x3 + (2 : Int32)).toNatClampNeg), .int (xs (x3 + (3 : Int32)).toNatClampNeg)]) (rest := [.int r]) rfl rfl (Nat.le_of_ble_eq_true rfl) ⟨Nat.le_refl _, Nat.le_refl _⟩ dL_law_1029 (fun H locs hP hD hS => ?_)
  refine W.eq (g2 := F0 m 1032 ls [.int r, .int r]) rfl ?_
  refine lv_icmp_eq (tgt := 1348) hx hb dL_law_1032 (by decide) (fun _ => ?_) (fun c9 => absurd rfl c9)
  exact next n1 m1 H locs ls hR1 hP hD hS hl
set_option maxHeartbeats 4000000 in
set_option maxRecDepth 100000 in
theorem law_write {p : Program} {l : Launch} {e : Env} {s : State} {m : MethodId} {below : List Frame} {meth : Method} {c : Code} {b L : Nat} {xs : Nat → Int32} {E : EV} {a : Nat → Nat → Nat} {bm : Nat → Nat} {x3 : Int32} (C0 : lw_At p s m meth c b L xs) (hE : Ev E (fun q : Nat => s.heap.size ≤ q) s) (h1 : vp_in (x3 + (1 : Int32)) L) (h2 : vp_in (x3 + (2 : Int32)) L) (h3 : vp_in (x3 + (3 : Int32)) L) (h4 : vp_in (x3 + (4 : Int32)) L) (h5 : vp_in (x3 + (5 : Int32)) L)
    (next : ∀ (n : NS) (m' : MS) (H : Heap) (locs : List Loc) (ls : Array Slot), Rel n m' → va_P E.1 vwCl (wX3 E a n ++ wX4 E bm m') H → va_D (fun q : Nat => s.heap.size ≤ q) (wX3 E a n ++ wX4 E bm m') → va_S (fun q : Nat => s.heap.size ≤ q) s.heap H locs → lv_has ls 4 [(3, .int x3), (2, .ref (bm 0)), (1, .ref (a 8 0)), (0, .ref b)] → W p l e room_1 s m #[Value.ref b] below meth c H locs 600000 7302250 (lw_Z below #[Value.ref b] s) (F0 m 1348 ls []))
    (n : NS) (m' : MS) (H : Heap) (locs : List Loc) (ls : Array Slot) (hR : Rel n m') (hP : va_P E.1 vwCl (wX3 E a n ++ wX4 E bm m') H) (hD : va_D (fun q : Nat => s.heap.size ≤ q) (wX3 E a n ++ wX4 E bm m')) (hS : va_S (fun q : Nat => s.heap.size ≤ q) s.heap H locs) (hl : lv_has ls 4 [(3, .int x3), (2, .ref (bm 0)), (1, .ref (a 8 0)), (0, .ref b)]) : W p l e room_1 s m #[Value.ref b] below meth c H locs 600000 7302250 (lw_Z below #[Value.ref b] s) (F0 m 1037 ls []) := by
  obtain ⟨hx, hb, hr, hml, hown, hts, hX, hbl, hlocks, hgv⟩ := C0
  have hA : ∀ q : Nat, s.heap.size ≤ q → (fun q : Nat => s.heap.size ≤ q) q := fun _ h => h
  have hbA : ¬ (fun q : Nat => s.heap.size ≤ q) b := Nat.not_le.mpr hbl
  refine lv_aload_n hx hb dL_law_1037 rfl (lv_at hl 2 rfl) ?_
  refine lv_aload_n hx hb dL_law_1038 rfl (lv_at hl 3 rfl) ?_
  refine lv_iload_n hx hb dL_law_1039 rfl (lv_at hl 0 rfl) ?_
  refine lv_iconst (v := (1 : Int32)) hx hb dL_law_1040 (by decide) ?_
  refine lv_iadd hx hb dL_law_1041 ?_
  refine va_sld hx hb hX hbl hbA hS h1 dL_law_1042 ?_
  refine lv_aload_n hx hb dL_law_1043 rfl (lv_at hl 3 rfl) ?_
  refine lv_iload_n hx hb dL_law_1044 rfl (lv_at hl 0 rfl) ?_
  refine lv_iconst (v := (2 : Int32)) hx hb dL_law_1045 (by decide) ?_
  refine lv_iadd hx hb dL_law_1046 ?_
  refine va_sld hx hb hX hbl hbA hS h2 dL_law_1047 ?_
  refine lv_aload_n hx hb dL_law_1048 rfl (lv_at hl 3 rfl) ?_
  refine lv_iload_n hx hb dL_law_1049 rfl (lv_at hl 0 rfl) ?_
  refine lv_iconst (v := (3 : Int32)) hx hb dL_law_1050 (by decide) ?_
  refine lv_iadd hx hb dL_law_1051 ?_
  refine va_sld hx hb hX hbl hbA hS h3 dL_law_1052 ?_
  refine lv_i2l (v := ((xs (x3 + (3 : Int32)).toNatClampNeg).toInt64)) hx hb dL_law_1053 rfl ?_
  refine lv_bipush (v := (32 : Int32)) hx hb dL_law_1054 (by decide) ?_
  refine lv_lshl (v := (((xs (x3 + (3 : Int32)).toNatClampNeg).toInt64) <<< ((32 : Int32).toInt64 &&& 63))) hx hb dL_law_1056 rfl ?_
  refine lv_aload_n hx hb dL_law_1057 rfl (lv_at hl 3 rfl) ?_
  refine lv_iload_n hx hb dL_law_1058 rfl (lv_at hl 0 rfl) ?_
  refine lv_iconst (v := (4 : Int32)) hx hb dL_law_1059 (by decide) ?_
  refine lv_iadd hx hb dL_law_1060 ?_
  refine va_sld hx hb hX hbl hbA hS h4 dL_law_1061 ?_
  refine lv_i2l (v := ((xs (x3 + (4 : Int32)).toNatClampNeg).toInt64)) hx hb dL_law_1062 rfl ?_
  refine lv_ldc2 (v := (4294967295 : Int64)) hx hb hown (hE.w tw_1000) dL_law_1063 ?_
  refine lv_land hx hb dL_law_1066 ?_
  refine lv_lor hx hb dL_law_1067 ?_
  obtain ⟨r, n1, m1, hf3, hf4, hR1⟩ := op_write hR (xs (x3 + (1 : Int32)).toNatClampNeg) (xs (x3 + (2 : Int32)).toNatClampNeg) ((((xs (x3 + (3 : Int32)).toNatClampNeg).toInt64) <<< ((32 : Int32).toInt64 &&& 63)) ||| (((xs (x3 + (4 : Int32)).toNatClampNeg).toInt64) &&& (4294967295 : Int64)))
  refine cV (X := []) (Y := wX4 E bm m') (w := (wX3 E a n ++ wX4 E bm m')) (w' := (wX3 E a n1 ++ wX4 E bm m')) (q0 := 0) lk_L_127 hx hb hml hown hE hA (c_X3_write l E a n (xs (x3 + (1 : Int32)).toNatClampNeg) (xs (x3 + (2 : Int32)).toNatClampNeg) ((((xs (x3 + (3 : Int32)).toNatClampNeg).toInt64) <<< ((32 : Int32).toInt64 &&& 63)) ||| (((xs (x3 + (4 : Int32)).toNatClampNeg).toInt64) &&& (4294967295 : Int64))) r n1 hf3) rfl rfl hP hD hS rfl rfl ⟨rfl, rfl, Nat.le_of_ble_eq_true rfl, Nat.le_of_ble_eq_true rfl⟩ hl.1 (As := [.int (xs (x3 + (1 : Int32)).toNatClampNeg), .int (xs (x3 + (2 : Int32)).toNatClampNeg), .long ((((xs (x3 + (3 : Int32)).toNatClampNeg).toInt64) <<< ((32 : Int32).toInt64 &&& 63)) ||| (((xs (x3 + (4 : Int32)).toNatClampNeg).toInt64) &&& (4294967295 : Int64)))]) (rest := []) rfl rfl (Nat.le_of_ble_eq_true rfl) ⟨Nat.le_refl _, Nat.le_refl _⟩ dL_law_1068 (fun H locs hP hD hS => ?_)
  refine W.eq (g2 := F0 m 1071 ls [.long r]) rfl ?_
  refine lv_aload_n hx hb dL_law_1071 rfl (lv_at hl 1 rfl) ?_
  refine lv_aload_n hx hb dL_law_1072 rfl (lv_at hl 3 rfl) ?_
  refine lv_iload_n hx hb dL_law_1073 rfl (lv_at hl 0 rfl) ?_
  refine lv_iconst (v := (1 : Int32)) hx hb dL_law_1074 (by decide) ?_
  refine lv_iadd hx hb dL_law_1075 ?_
  refine va_sld hx hb hX hbl hbA hS h1 dL_law_1076 ?_
  refine lv_aload_n hx hb dL_law_1077 rfl (lv_at hl 3 rfl) ?_
  refine lv_iload_n hx hb dL_law_1078 rfl (lv_at hl 0 rfl) ?_
  refine lv_iconst (v := (2 : Int32)) hx hb dL_law_1079 (by decide) ?_
  refine lv_iadd hx hb dL_law_1080 ?_
  refine va_sld hx hb hX hbl hbA hS h2 dL_law_1081 ?_
  refine lv_aload_n hx hb dL_law_1082 rfl (lv_at hl 3 rfl) ?_
  refine lv_iload_n hx hb dL_law_1083 rfl (lv_at hl 0 rfl) ?_
  refine lv_iconst (v := (3 : Int32)) hx hb dL_law_1084 (by decide) ?_
  refine lv_iadd hx hb dL_law_1085 ?_
  refine va_sld hx hb hX hbl hbA hS h3 dL_law_1086 ?_
  refine lv_i2l (v := ((xs (x3 + (3 : Int32)).toNatClampNeg).toInt64)) hx hb dL_law_1087 rfl ?_
  refine lv_bipush (v := (32 : Int32)) hx hb dL_law_1088 (by decide) ?_
  refine lv_lshl (v := (((xs (x3 + (3 : Int32)).toNatClampNeg).toInt64) <<< ((32 : Int32).toInt64 &&& 63))) hx hb dL_law_1090 rfl ?_
  refine lv_aload_n hx hb dL_law_1091 rfl (lv_at hl 3 rfl) ?_
  refine lv_iload_n hx hb dL_law_1092 rfl (lv_at hl 0 rfl) ?_
  refine lv_iconst (v := (4 : Int32)) hx hb dL_law_1093 (by decide) ?_
  refine lv_iadd hx hb dL_law_1094 ?_
  refine va_sld hx hb hX hbl hbA hS h4 dL_law_1095 ?_
  refine lv_i2l (v := ((xs (x3 + (4 : Int32)).toNatClampNeg).toInt64)) hx hb dL_law_1096 rfl ?_
  refine lv_ldc2 (v := (4294967295 : Int64)) hx hb hown (hE.w tw_1000) dL_law_1097 ?_
  refine lv_land hx hb dL_law_1100 ?_
  refine lv_lor hx hb dL_law_1101 ?_
  refine cV (X := wX3 E a n1) (Y := []) (w := (wX3 E a n1 ++ wX4 E bm m')) (w' := (wX3 E a n1 ++ wX4 E bm m1)) (q0 := 0) lk_L_131 hx hb hml hown hE hA (c_X4_write l E bm m' (xs (x3 + (1 : Int32)).toNatClampNeg) (xs (x3 + (2 : Int32)).toNatClampNeg) ((((xs (x3 + (3 : Int32)).toNatClampNeg).toInt64) <<< ((32 : Int32).toInt64 &&& 63)) ||| (((xs (x3 + (4 : Int32)).toNatClampNeg).toInt64) &&& (4294967295 : Int64))) r m1 hf4) rfl rfl hP hD hS rfl rfl ⟨rfl, rfl, Nat.le_of_ble_eq_true rfl, Nat.le_of_ble_eq_true rfl⟩ hl.1 (As := [.int (xs (x3 + (1 : Int32)).toNatClampNeg), .int (xs (x3 + (2 : Int32)).toNatClampNeg), .long ((((xs (x3 + (3 : Int32)).toNatClampNeg).toInt64) <<< ((32 : Int32).toInt64 &&& 63)) ||| (((xs (x3 + (4 : Int32)).toNatClampNeg).toInt64) &&& (4294967295 : Int64)))]) (rest := [.long r]) rfl rfl (Nat.le_of_ble_eq_true rfl) ⟨Nat.le_refl _, Nat.le_refl _⟩ dL_law_1102 (fun H locs hP hD hS => ?_)
  refine W.eq (g2 := F0 m 1105 ls [.long r, .long r]) rfl ?_
  refine W.lcmp hx hb dL_law_1105 ?_
  refine lv_if_eq (tgt := 1348) hx hb dL_law_1106 (by decide) (fun _ => ?_) (fun c9 => absurd ((lg_cmp_eq _ _).mpr rfl) c9)
  exact next n1 m1 H locs ls hR1 hP hD hS hl
set_option maxHeartbeats 4000000 in
set_option maxRecDepth 100000 in
theorem law_copy {p : Program} {l : Launch} {e : Env} {s : State} {m : MethodId} {below : List Frame} {meth : Method} {c : Code} {b L : Nat} {xs : Nat → Int32} {E : EV} {a : Nat → Nat → Nat} {bm : Nat → Nat} {x3 : Int32} (C0 : lw_At p s m meth c b L xs) (hE : Ev E (fun q : Nat => s.heap.size ≤ q) s) (h1 : vp_in (x3 + (1 : Int32)) L) (h2 : vp_in (x3 + (2 : Int32)) L) (h3 : vp_in (x3 + (3 : Int32)) L) (h4 : vp_in (x3 + (4 : Int32)) L) (h5 : vp_in (x3 + (5 : Int32)) L)
    (next : ∀ (n : NS) (m' : MS) (H : Heap) (locs : List Loc) (ls : Array Slot), Rel n m' → va_P E.1 vwCl (wX3 E a n ++ wX4 E bm m') H → va_D (fun q : Nat => s.heap.size ≤ q) (wX3 E a n ++ wX4 E bm m') → va_S (fun q : Nat => s.heap.size ≤ q) s.heap H locs → lv_has ls 4 [(3, .int x3), (2, .ref (bm 0)), (1, .ref (a 8 0)), (0, .ref b)] → W p l e room_1 s m #[Value.ref b] below meth c H locs 600000 7302250 (lw_Z below #[Value.ref b] s) (F0 m 1348 ls []))
    (n : NS) (m' : MS) (H : Heap) (locs : List Loc) (ls : Array Slot) (hR : Rel n m') (hP : va_P E.1 vwCl (wX3 E a n ++ wX4 E bm m') H) (hD : va_D (fun q : Nat => s.heap.size ≤ q) (wX3 E a n ++ wX4 E bm m')) (hS : va_S (fun q : Nat => s.heap.size ≤ q) s.heap H locs) (hl : lv_has ls 4 [(3, .int x3), (2, .ref (bm 0)), (1, .ref (a 8 0)), (0, .ref b)]) : W p l e room_1 s m #[Value.ref b] below meth c H locs 600000 7302250 (lw_Z below #[Value.ref b] s) (F0 m 1111 ls []) := by
  obtain ⟨hx, hb, hr, hml, hown, hts, hX, hbl, hlocks, hgv⟩ := C0
  have hA : ∀ q : Nat, s.heap.size ≤ q → (fun q : Nat => s.heap.size ≤ q) q := fun _ h => h
  have hbA : ¬ (fun q : Nat => s.heap.size ≤ q) b := Nat.not_le.mpr hbl
  refine lv_aload_n hx hb dL_law_1111 rfl (lv_at hl 2 rfl) ?_
  refine lv_aload_n hx hb dL_law_1112 rfl (lv_at hl 3 rfl) ?_
  refine lv_iload_n hx hb dL_law_1113 rfl (lv_at hl 0 rfl) ?_
  refine lv_iconst (v := (1 : Int32)) hx hb dL_law_1114 (by decide) ?_
  refine lv_iadd hx hb dL_law_1115 ?_
  refine va_sld hx hb hX hbl hbA hS h1 dL_law_1116 ?_
  refine lv_aload_n hx hb dL_law_1117 rfl (lv_at hl 3 rfl) ?_
  refine lv_iload_n hx hb dL_law_1118 rfl (lv_at hl 0 rfl) ?_
  refine lv_iconst (v := (2 : Int32)) hx hb dL_law_1119 (by decide) ?_
  refine lv_iadd hx hb dL_law_1120 ?_
  refine va_sld hx hb hX hbl hbA hS h2 dL_law_1121 ?_
  refine lv_aload_n hx hb dL_law_1122 rfl (lv_at hl 3 rfl) ?_
  refine lv_iload_n hx hb dL_law_1123 rfl (lv_at hl 0 rfl) ?_
  refine lv_iconst (v := (3 : Int32)) hx hb dL_law_1124 (by decide) ?_
  refine lv_iadd hx hb dL_law_1125 ?_
  refine va_sld hx hb hX hbl hbA hS h3 dL_law_1126 ?_
  refine lv_aload_n hx hb dL_law_1127 rfl (lv_at hl 3 rfl) ?_
  refine lv_iload_n hx hb dL_law_1128 rfl (lv_at hl 0 rfl) ?_
  refine lv_iconst (v := (4 : Int32)) hx hb dL_law_1129 (by decide) ?_
  refine lv_iadd hx hb dL_law_1130 ?_
  refine va_sld hx hb hX hbl hbA hS h4 dL_law_1131 ?_
  refine lv_aload_n hx hb dL_law_1132 rfl (lv_at hl 3 rfl) ?_
  refine lv_iload_n hx hb dL_law_1133 rfl (lv_at hl 0 rfl) ?_
  refine lv_iconst (v := (5 : Int32)) hx hb dL_law_1134 (by decide) ?_
  refine lv_iadd hx hb dL_law_1135 ?_
  refine va_sld hx hb hX hbl hbA hS h5 dL_law_1136 ?_
  obtain ⟨r, n1, m1, hf3, hf4, hR1⟩ := op_copy hR (xs (x3 + (1 : Int32)).toNatClampNeg) (xs (x3 + (2 : Int32)).toNatClampNeg) (xs (x3 + (3 : Int32)).toNatClampNeg) (xs (x3 + (4 : Int32)).toNatClampNeg) (xs (x3 + (5 : Int32)).toNatClampNeg)
  refine cV (X := []) (Y := wX4 E bm m') (w := (wX3 E a n ++ wX4 E bm m')) (w' := (wX3 E a n1 ++ wX4 E bm m')) (q0 := 0) lk_L_132 hx hb hml hown hE hA (c_X3_copy l E a n (xs (x3 + (1 : Int32)).toNatClampNeg) (xs (x3 + (2 : Int32)).toNatClampNeg) (xs (x3 + (3 : Int32)).toNatClampNeg) (xs (x3 + (4 : Int32)).toNatClampNeg) (xs (x3 + (5 : Int32)).toNatClampNeg) r n1 hf3) rfl rfl hP hD hS rfl rfl ⟨rfl, rfl, Nat.le_of_ble_eq_true rfl, Nat.le_of_ble_eq_true rfl⟩ hl.1 (As := [.int (xs (x3 + (1 : Int32)).toNatClampNeg), .int (xs (x3 + (2 : Int32)).toNatClampNeg), .int (xs (x3 + (3 : Int32)).toNatClampNeg), .int (xs (x3 + (4 : Int32)).toNatClampNeg), .int (xs (x3 + (5 : Int32)).toNatClampNeg)]) (rest := []) rfl rfl (Nat.le_of_ble_eq_true rfl) ⟨Nat.le_refl _, Nat.le_refl _⟩ dL_law_1137 (fun H locs hP hD hS => ?_)
  refine W.eq (g2 := F0 m 1140 ls [.int r]) rfl ?_
  refine lv_aload_n hx hb dL_law_1140 rfl (lv_at hl 1 rfl) ?_
  refine lv_aload_n hx hb dL_law_1141 rfl (lv_at hl 3 rfl) ?_
  refine lv_iload_n hx hb dL_law_1142 rfl (lv_at hl 0 rfl) ?_
  refine lv_iconst (v := (1 : Int32)) hx hb dL_law_1143 (by decide) ?_
  refine lv_iadd hx hb dL_law_1144 ?_
  refine va_sld hx hb hX hbl hbA hS h1 dL_law_1145 ?_
  refine lv_aload_n hx hb dL_law_1146 rfl (lv_at hl 3 rfl) ?_
  refine lv_iload_n hx hb dL_law_1147 rfl (lv_at hl 0 rfl) ?_
  refine lv_iconst (v := (2 : Int32)) hx hb dL_law_1148 (by decide) ?_
  refine lv_iadd hx hb dL_law_1149 ?_
  refine va_sld hx hb hX hbl hbA hS h2 dL_law_1150 ?_
  refine lv_aload_n hx hb dL_law_1151 rfl (lv_at hl 3 rfl) ?_
  refine lv_iload_n hx hb dL_law_1152 rfl (lv_at hl 0 rfl) ?_
  refine lv_iconst (v := (3 : Int32)) hx hb dL_law_1153 (by decide) ?_
  refine lv_iadd hx hb dL_law_1154 ?_
  refine va_sld hx hb hX hbl hbA hS h3 dL_law_1155 ?_
  refine lv_aload_n hx hb dL_law_1156 rfl (lv_at hl 3 rfl) ?_
  refine lv_iload_n hx hb dL_law_1157 rfl (lv_at hl 0 rfl) ?_
  refine lv_iconst (v := (4 : Int32)) hx hb dL_law_1158 (by decide) ?_
  refine lv_iadd hx hb dL_law_1159 ?_
  refine va_sld hx hb hX hbl hbA hS h4 dL_law_1160 ?_
  refine lv_aload_n hx hb dL_law_1161 rfl (lv_at hl 3 rfl) ?_
  refine lv_iload_n hx hb dL_law_1162 rfl (lv_at hl 0 rfl) ?_
  refine lv_iconst (v := (5 : Int32)) hx hb dL_law_1163 (by decide) ?_
  refine lv_iadd hx hb dL_law_1164 ?_
  refine va_sld hx hb hX hbl hbA hS h5 dL_law_1165 ?_
  refine cV (X := wX3 E a n1) (Y := []) (w := (wX3 E a n1 ++ wX4 E bm m')) (w' := (wX3 E a n1 ++ wX4 E bm m1)) (q0 := 0) lk_L_136 hx hb hml hown hE hA (c_X4_copy l E bm m' (xs (x3 + (1 : Int32)).toNatClampNeg) (xs (x3 + (2 : Int32)).toNatClampNeg) (xs (x3 + (3 : Int32)).toNatClampNeg) (xs (x3 + (4 : Int32)).toNatClampNeg) (xs (x3 + (5 : Int32)).toNatClampNeg) r m1 hf4) rfl rfl hP hD hS rfl rfl ⟨rfl, rfl, Nat.le_of_ble_eq_true rfl, Nat.le_of_ble_eq_true rfl⟩ hl.1 (As := [.int (xs (x3 + (1 : Int32)).toNatClampNeg), .int (xs (x3 + (2 : Int32)).toNatClampNeg), .int (xs (x3 + (3 : Int32)).toNatClampNeg), .int (xs (x3 + (4 : Int32)).toNatClampNeg), .int (xs (x3 + (5 : Int32)).toNatClampNeg)]) (rest := [.int r]) rfl rfl (Nat.le_of_ble_eq_true rfl) ⟨Nat.le_refl _, Nat.le_refl _⟩ dL_law_1166 (fun H locs hP hD hS => ?_)
  refine W.eq (g2 := F0 m 1169 ls [.int r, .int r]) rfl ?_
  refine lv_icmp_eq (tgt := 1348) hx hb dL_law_1169 (by decide) (fun _ => ?_) (fun c9 => absurd rfl c9)
  exact next n1 m1 H locs ls hR1 hP hD hS hl
set_option maxHeartbeats 4000000 in
set_option maxRecDepth 100000 in
theorem law_lays {p : Program} {l : Launch} {e : Env} {s : State} {m : MethodId} {below : List Frame} {meth : Method} {c : Code} {b L : Nat} {xs : Nat → Int32} {E : EV} {a : Nat → Nat → Nat} {bm : Nat → Nat} {x3 : Int32} (C0 : lw_At p s m meth c b L xs) (hE : Ev E (fun q : Nat => s.heap.size ≤ q) s) (h1 : vp_in (x3 + (1 : Int32)) L) (h2 : vp_in (x3 + (2 : Int32)) L) (h3 : vp_in (x3 + (3 : Int32)) L) (h4 : vp_in (x3 + (4 : Int32)) L) (h5 : vp_in (x3 + (5 : Int32)) L)
    (next : ∀ (n : NS) (m' : MS) (H : Heap) (locs : List Loc) (ls : Array Slot), Rel n m' → va_P E.1 vwCl (wX3 E a n ++ wX4 E bm m') H → va_D (fun q : Nat => s.heap.size ≤ q) (wX3 E a n ++ wX4 E bm m') → va_S (fun q : Nat => s.heap.size ≤ q) s.heap H locs → lv_has ls 4 [(3, .int x3), (2, .ref (bm 0)), (1, .ref (a 8 0)), (0, .ref b)] → W p l e room_1 s m #[Value.ref b] below meth c H locs 600000 7302250 (lw_Z below #[Value.ref b] s) (F0 m 1348 ls []))
    (n : NS) (m' : MS) (H : Heap) (locs : List Loc) (ls : Array Slot) (hR : Rel n m') (hP : va_P E.1 vwCl (wX3 E a n ++ wX4 E bm m') H) (hD : va_D (fun q : Nat => s.heap.size ≤ q) (wX3 E a n ++ wX4 E bm m')) (hS : va_S (fun q : Nat => s.heap.size ≤ q) s.heap H locs) (hl : lv_has ls 4 [(3, .int x3), (2, .ref (bm 0)), (1, .ref (a 8 0)), (0, .ref b)]) : W p l e room_1 s m #[Value.ref b] below meth c H locs 600000 7302250 (lw_Z below #[Value.ref b] s) (F0 m 1174 ls []) := by
  obtain ⟨hx, hb, hr, hml, hown, hts, hX, hbl, hlocks, hgv⟩ := C0
  have hA : ∀ q : Nat, s.heap.size ≤ q → (fun q : Nat => s.heap.size ≤ q) q := fun _ h => h
  have hbA : ¬ (fun q : Nat => s.heap.size ≤ q) b := Nat.not_le.mpr hbl
  refine lv_aload_n hx hb dL_law_1174 rfl (lv_at hl 2 rfl) ?_
  refine lv_aload_n hx hb dL_law_1175 rfl (lv_at hl 3 rfl) ?_
  refine lv_iload_n hx hb dL_law_1176 rfl (lv_at hl 0 rfl) ?_
  refine lv_iconst (v := (1 : Int32)) hx hb dL_law_1177 (by decide) ?_
  refine lv_iadd hx hb dL_law_1178 ?_
  refine va_sld hx hb hX hbl hbA hS h1 dL_law_1179 ?_
  obtain ⟨r, n1, m1, hf3, hf4, hR1⟩ := op_lays hR (xs (x3 + (1 : Int32)).toNatClampNeg)
  refine cV (X := []) (Y := wX4 E bm m') (w := (wX3 E a n ++ wX4 E bm m')) (w' := (wX3 E a n1 ++ wX4 E bm m')) (q0 := 0) lk_L_137 hx hb hml hown hE hA (c_X3_lays l E a n (xs (x3 + (1 : Int32)).toNatClampNeg) r n1 hf3) rfl rfl hP hD hS rfl rfl ⟨rfl, rfl, Nat.le_of_ble_eq_true rfl, Nat.le_of_ble_eq_true rfl⟩ hl.1 (As := [.int (xs (x3 + (1 : Int32)).toNatClampNeg)]) (rest := []) rfl rfl (Nat.le_of_ble_eq_true rfl) ⟨Nat.le_refl _, Nat.le_refl _⟩ dL_law_1180 (fun H locs hP hD hS => ?_)
  refine W.eq (g2 := F0 m 1183 ls [.int r]) rfl ?_
  refine lv_aload_n hx hb dL_law_1183 rfl (lv_at hl 1 rfl) ?_
  refine lv_aload_n hx hb dL_law_1184 rfl (lv_at hl 3 rfl) ?_
  refine lv_iload_n hx hb dL_law_1185 rfl (lv_at hl 0 rfl) ?_
  refine lv_iconst (v := (1 : Int32)) hx hb dL_law_1186 (by decide) ?_
  refine lv_iadd hx hb dL_law_1187 ?_
  refine va_sld hx hb hX hbl hbA hS h1 dL_law_1188 ?_
  refine cV (X := wX3 E a n1) (Y := []) (w := (wX3 E a n1 ++ wX4 E bm m')) (w' := (wX3 E a n1 ++ wX4 E bm m1)) (q0 := 0) lk_L_140 hx hb hml hown hE hA (c_X4_lays l E bm m' (xs (x3 + (1 : Int32)).toNatClampNeg) r m1 hf4) rfl rfl hP hD hS rfl rfl ⟨rfl, rfl, Nat.le_of_ble_eq_true rfl, Nat.le_of_ble_eq_true rfl⟩ hl.1 (As := [.int (xs (x3 + (1 : Int32)).toNatClampNeg)]) (rest := [.int r]) rfl rfl (Nat.le_of_ble_eq_true rfl) ⟨Nat.le_refl _, Nat.le_refl _⟩ dL_law_1189 (fun H locs hP hD hS => ?_)
  refine W.eq (g2 := F0 m 1192 ls [.int r, .int r]) rfl ?_
  refine lv_icmp_eq (tgt := 1348) hx hb dL_law_1192 (by decide) (fun _ => ?_) (fun c9 => absurd rfl c9)
  exact next n1 m1 H locs ls hR1 hP hD hS hl
set_option maxHeartbeats 4000000 in
set_option maxRecDepth 100000 in
theorem law_book {p : Program} {l : Launch} {e : Env} {s : State} {m : MethodId} {below : List Frame} {meth : Method} {c : Code} {b L : Nat} {xs : Nat → Int32} {E : EV} {a : Nat → Nat → Nat} {bm : Nat → Nat} {x3 : Int32} (C0 : lw_At p s m meth c b L xs) (hE : Ev E (fun q : Nat => s.heap.size ≤ q) s) (h1 : vp_in (x3 + (1 : Int32)) L) (h2 : vp_in (x3 + (2 : Int32)) L) (h3 : vp_in (x3 + (3 : Int32)) L) (h4 : vp_in (x3 + (4 : Int32)) L) (h5 : vp_in (x3 + (5 : Int32)) L)
    (next : ∀ (n : NS) (m' : MS) (H : Heap) (locs : List Loc) (ls : Array Slot), Rel n m' → va_P E.1 vwCl (wX3 E a n ++ wX4 E bm m') H → va_D (fun q : Nat => s.heap.size ≤ q) (wX3 E a n ++ wX4 E bm m') → va_S (fun q : Nat => s.heap.size ≤ q) s.heap H locs → lv_has ls 4 [(3, .int x3), (2, .ref (bm 0)), (1, .ref (a 8 0)), (0, .ref b)] → W p l e room_1 s m #[Value.ref b] below meth c H locs 600000 7302250 (lw_Z below #[Value.ref b] s) (F0 m 1348 ls []))
    (n : NS) (m' : MS) (H : Heap) (locs : List Loc) (ls : Array Slot) (hR : Rel n m') (hP : va_P E.1 vwCl (wX3 E a n ++ wX4 E bm m') H) (hD : va_D (fun q : Nat => s.heap.size ≤ q) (wX3 E a n ++ wX4 E bm m')) (hS : va_S (fun q : Nat => s.heap.size ≤ q) s.heap H locs) (hl : lv_has ls 4 [(3, .int x3), (2, .ref (bm 0)), (1, .ref (a 8 0)), (0, .ref b)]) : W p l e room_1 s m #[Value.ref b] below meth c H locs 600000 7302250 (lw_Z below #[Value.ref b] s) (F0 m 1197 ls []) := by
  obtain ⟨hx, hb, hr, hml, hown, hts, hX, hbl, hlocks, hgv⟩ := C0
  have hA : ∀ q : Nat, s.heap.size ≤ q → (fun q : Nat => s.heap.size ≤ q) q := fun _ h => h
  have hbA : ¬ (fun q : Nat => s.heap.size ≤ q) b := Nat.not_le.mpr hbl
  refine lv_aload_n hx hb dL_law_1197 rfl (lv_at hl 2 rfl) ?_
  refine lv_aload_n hx hb dL_law_1198 rfl (lv_at hl 3 rfl) ?_
  refine lv_iload_n hx hb dL_law_1199 rfl (lv_at hl 0 rfl) ?_
  refine lv_iconst (v := (1 : Int32)) hx hb dL_law_1200 (by decide) ?_
  refine lv_iadd hx hb dL_law_1201 ?_
  refine va_sld hx hb hX hbl hbA hS h1 dL_law_1202 ?_
  refine lv_aload_n hx hb dL_law_1203 rfl (lv_at hl 3 rfl) ?_
  refine lv_iload_n hx hb dL_law_1204 rfl (lv_at hl 0 rfl) ?_
  refine lv_iconst (v := (2 : Int32)) hx hb dL_law_1205 (by decide) ?_
  refine lv_iadd hx hb dL_law_1206 ?_
  refine va_sld hx hb hX hbl hbA hS h2 dL_law_1207 ?_
  obtain ⟨r, n1, m1, hf3, hf4, hR1⟩ := op_book hR (xs (x3 + (1 : Int32)).toNatClampNeg) (xs (x3 + (2 : Int32)).toNatClampNeg)
  refine cV (X := []) (Y := wX4 E bm m') (w := (wX3 E a n ++ wX4 E bm m')) (w' := (wX3 E a n1 ++ wX4 E bm m')) (q0 := 0) lk_L_141 hx hb hml hown hE hA (c_X3_book l E a n (xs (x3 + (1 : Int32)).toNatClampNeg) (xs (x3 + (2 : Int32)).toNatClampNeg) r n1 hf3) rfl rfl hP hD hS rfl rfl ⟨rfl, rfl, Nat.le_of_ble_eq_true rfl, Nat.le_of_ble_eq_true rfl⟩ hl.1 (As := [.int (xs (x3 + (1 : Int32)).toNatClampNeg), .int (xs (x3 + (2 : Int32)).toNatClampNeg)]) (rest := []) rfl rfl (Nat.le_of_ble_eq_true rfl) ⟨Nat.le_refl _, Nat.le_refl _⟩ dL_law_1208 (fun H locs hP hD hS => ?_)
  refine W.eq (g2 := F0 m 1211 ls [.int r]) rfl ?_
  refine lv_aload_n hx hb dL_law_1211 rfl (lv_at hl 1 rfl) ?_
  refine lv_aload_n hx hb dL_law_1212 rfl (lv_at hl 3 rfl) ?_
  refine lv_iload_n hx hb dL_law_1213 rfl (lv_at hl 0 rfl) ?_
  refine lv_iconst (v := (1 : Int32)) hx hb dL_law_1214 (by decide) ?_
  refine lv_iadd hx hb dL_law_1215 ?_
  refine va_sld hx hb hX hbl hbA hS h1 dL_law_1216 ?_
  refine lv_aload_n hx hb dL_law_1217 rfl (lv_at hl 3 rfl) ?_
  refine lv_iload_n hx hb dL_law_1218 rfl (lv_at hl 0 rfl) ?_
  refine lv_iconst (v := (2 : Int32)) hx hb dL_law_1219 (by decide) ?_
  refine lv_iadd hx hb dL_law_1220 ?_
  refine va_sld hx hb hX hbl hbA hS h2 dL_law_1221 ?_
  refine cV (X := wX3 E a n1) (Y := []) (w := (wX3 E a n1 ++ wX4 E bm m')) (w' := (wX3 E a n1 ++ wX4 E bm m1)) (q0 := 0) lk_L_144 hx hb hml hown hE hA (c_X4_book l E bm m' (xs (x3 + (1 : Int32)).toNatClampNeg) (xs (x3 + (2 : Int32)).toNatClampNeg) r m1 hf4) rfl rfl hP hD hS rfl rfl ⟨rfl, rfl, Nat.le_of_ble_eq_true rfl, Nat.le_of_ble_eq_true rfl⟩ hl.1 (As := [.int (xs (x3 + (1 : Int32)).toNatClampNeg), .int (xs (x3 + (2 : Int32)).toNatClampNeg)]) (rest := [.int r]) rfl rfl (Nat.le_of_ble_eq_true rfl) ⟨Nat.le_refl _, Nat.le_refl _⟩ dL_law_1222 (fun H locs hP hD hS => ?_)
  refine W.eq (g2 := F0 m 1225 ls [.int r, .int r]) rfl ?_
  refine lv_icmp_eq (tgt := 1348) hx hb dL_law_1225 (by decide) (fun _ => ?_) (fun c9 => absurd rfl c9)
  exact next n1 m1 H locs ls hR1 hP hD hS hl
set_option maxHeartbeats 4000000 in
set_option maxRecDepth 100000 in
theorem law_read {p : Program} {l : Launch} {e : Env} {s : State} {m : MethodId} {below : List Frame} {meth : Method} {c : Code} {b L : Nat} {xs : Nat → Int32} {E : EV} {a : Nat → Nat → Nat} {bm : Nat → Nat} {x3 : Int32} (C0 : lw_At p s m meth c b L xs) (hE : Ev E (fun q : Nat => s.heap.size ≤ q) s) (h1 : vp_in (x3 + (1 : Int32)) L) (h2 : vp_in (x3 + (2 : Int32)) L) (h3 : vp_in (x3 + (3 : Int32)) L) (h4 : vp_in (x3 + (4 : Int32)) L) (h5 : vp_in (x3 + (5 : Int32)) L)
    (next : ∀ (n : NS) (m' : MS) (H : Heap) (locs : List Loc) (ls : Array Slot), Rel n m' → va_P E.1 vwCl (wX3 E a n ++ wX4 E bm m') H → va_D (fun q : Nat => s.heap.size ≤ q) (wX3 E a n ++ wX4 E bm m') → va_S (fun q : Nat => s.heap.size ≤ q) s.heap H locs → lv_has ls 4 [(3, .int x3), (2, .ref (bm 0)), (1, .ref (a 8 0)), (0, .ref b)] → W p l e room_1 s m #[Value.ref b] below meth c H locs 600000 7302250 (lw_Z below #[Value.ref b] s) (F0 m 1348 ls []))
    (n : NS) (m' : MS) (H : Heap) (locs : List Loc) (ls : Array Slot) (hR : Rel n m') (hP : va_P E.1 vwCl (wX3 E a n ++ wX4 E bm m') H) (hD : va_D (fun q : Nat => s.heap.size ≤ q) (wX3 E a n ++ wX4 E bm m')) (hS : va_S (fun q : Nat => s.heap.size ≤ q) s.heap H locs) (hl : lv_has ls 4 [(3, .int x3), (2, .ref (bm 0)), (1, .ref (a 8 0)), (0, .ref b)]) : W p l e room_1 s m #[Value.ref b] below meth c H locs 600000 7302250 (lw_Z below #[Value.ref b] s) (F0 m 1230 ls []) := by
  obtain ⟨hx, hb, hr, hml, hown, hts, hX, hbl, hlocks, hgv⟩ := C0
  have hA : ∀ q : Nat, s.heap.size ≤ q → (fun q : Nat => s.heap.size ≤ q) q := fun _ h => h
  have hbA : ¬ (fun q : Nat => s.heap.size ≤ q) b := Nat.not_le.mpr hbl
  refine lv_aload_n hx hb dL_law_1230 rfl (lv_at hl 2 rfl) ?_
  refine lv_aload_n hx hb dL_law_1231 rfl (lv_at hl 3 rfl) ?_
  refine lv_iload_n hx hb dL_law_1232 rfl (lv_at hl 0 rfl) ?_
  refine lv_iconst (v := (1 : Int32)) hx hb dL_law_1233 (by decide) ?_
  refine lv_iadd hx hb dL_law_1234 ?_
  refine va_sld hx hb hX hbl hbA hS h1 dL_law_1235 ?_
  refine lv_aload_n hx hb dL_law_1236 rfl (lv_at hl 3 rfl) ?_
  refine lv_iload_n hx hb dL_law_1237 rfl (lv_at hl 0 rfl) ?_
  refine lv_iconst (v := (2 : Int32)) hx hb dL_law_1238 (by decide) ?_
  refine lv_iadd hx hb dL_law_1239 ?_
  refine va_sld hx hb hX hbl hbA hS h2 dL_law_1240 ?_
  obtain ⟨r, n1, m1, hf3, hf4, hR1⟩ := op_read hR (xs (x3 + (1 : Int32)).toNatClampNeg) (xs (x3 + (2 : Int32)).toNatClampNeg)
  refine cV (X := []) (Y := wX4 E bm m') (w := (wX3 E a n ++ wX4 E bm m')) (w' := (wX3 E a n1 ++ wX4 E bm m')) (q0 := 0) lk_L_145 hx hb hml hown hE hA (c_X3_read l E a n (xs (x3 + (1 : Int32)).toNatClampNeg) (xs (x3 + (2 : Int32)).toNatClampNeg) r n1 hf3) rfl rfl hP hD hS rfl rfl ⟨rfl, rfl, Nat.le_of_ble_eq_true rfl, Nat.le_of_ble_eq_true rfl⟩ hl.1 (As := [.int (xs (x3 + (1 : Int32)).toNatClampNeg), .int (xs (x3 + (2 : Int32)).toNatClampNeg)]) (rest := []) rfl rfl (Nat.le_of_ble_eq_true rfl) ⟨Nat.le_refl _, Nat.le_refl _⟩ dL_law_1241 (fun H locs hP hD hS => ?_)
  refine W.eq (g2 := F0 m 1244 ls [.int r]) rfl ?_
  refine lv_aload_n hx hb dL_law_1244 rfl (lv_at hl 1 rfl) ?_
  refine lv_aload_n hx hb dL_law_1245 rfl (lv_at hl 3 rfl) ?_
  refine lv_iload_n hx hb dL_law_1246 rfl (lv_at hl 0 rfl) ?_
  refine lv_iconst (v := (1 : Int32)) hx hb dL_law_1247 (by decide) ?_
  refine lv_iadd hx hb dL_law_1248 ?_
  refine va_sld hx hb hX hbl hbA hS h1 dL_law_1249 ?_
  refine lv_aload_n hx hb dL_law_1250 rfl (lv_at hl 3 rfl) ?_
  refine lv_iload_n hx hb dL_law_1251 rfl (lv_at hl 0 rfl) ?_
  refine lv_iconst (v := (2 : Int32)) hx hb dL_law_1252 (by decide) ?_
  refine lv_iadd hx hb dL_law_1253 ?_
  refine va_sld hx hb hX hbl hbA hS h2 dL_law_1254 ?_
  refine cV (X := wX3 E a n1) (Y := []) (w := (wX3 E a n1 ++ wX4 E bm m')) (w' := (wX3 E a n1 ++ wX4 E bm m1)) (q0 := 0) lk_L_148 hx hb hml hown hE hA (c_X4_read l E bm m' (xs (x3 + (1 : Int32)).toNatClampNeg) (xs (x3 + (2 : Int32)).toNatClampNeg) r m1 hf4) rfl rfl hP hD hS rfl rfl ⟨rfl, rfl, Nat.le_of_ble_eq_true rfl, Nat.le_of_ble_eq_true rfl⟩ hl.1 (As := [.int (xs (x3 + (1 : Int32)).toNatClampNeg), .int (xs (x3 + (2 : Int32)).toNatClampNeg)]) (rest := [.int r]) rfl rfl (Nat.le_of_ble_eq_true rfl) ⟨Nat.le_refl _, Nat.le_refl _⟩ dL_law_1255 (fun H locs hP hD hS => ?_)
  refine W.eq (g2 := F0 m 1258 ls [.int r, .int r]) rfl ?_
  refine lv_icmp_eq (tgt := 1348) hx hb dL_law_1258 (by decide) (fun _ => ?_) (fun c9 => absurd rfl c9)
  exact next n1 m1 H locs ls hR1 hP hD hS hl
set_option maxHeartbeats 4000000 in
set_option maxRecDepth 100000 in
theorem law_image {p : Program} {l : Launch} {e : Env} {s : State} {m : MethodId} {below : List Frame} {meth : Method} {c : Code} {b L : Nat} {xs : Nat → Int32} {E : EV} {a : Nat → Nat → Nat} {bm : Nat → Nat} {x3 : Int32} (C0 : lw_At p s m meth c b L xs) (hE : Ev E (fun q : Nat => s.heap.size ≤ q) s) (h1 : vp_in (x3 + (1 : Int32)) L) (h2 : vp_in (x3 + (2 : Int32)) L) (h3 : vp_in (x3 + (3 : Int32)) L) (h4 : vp_in (x3 + (4 : Int32)) L) (h5 : vp_in (x3 + (5 : Int32)) L)
    (next : ∀ (n : NS) (m' : MS) (H : Heap) (locs : List Loc) (ls : Array Slot), Rel n m' → va_P E.1 vwCl (wX3 E a n ++ wX4 E bm m') H → va_D (fun q : Nat => s.heap.size ≤ q) (wX3 E a n ++ wX4 E bm m') → va_S (fun q : Nat => s.heap.size ≤ q) s.heap H locs → lv_has ls 4 [(3, .int x3), (2, .ref (bm 0)), (1, .ref (a 8 0)), (0, .ref b)] → W p l e room_1 s m #[Value.ref b] below meth c H locs 600000 7302250 (lw_Z below #[Value.ref b] s) (F0 m 1348 ls []))
    (n : NS) (m' : MS) (H : Heap) (locs : List Loc) (ls : Array Slot) (hR : Rel n m') (hP : va_P E.1 vwCl (wX3 E a n ++ wX4 E bm m') H) (hD : va_D (fun q : Nat => s.heap.size ≤ q) (wX3 E a n ++ wX4 E bm m')) (hS : va_S (fun q : Nat => s.heap.size ≤ q) s.heap H locs) (hl : lv_has ls 4 [(3, .int x3), (2, .ref (bm 0)), (1, .ref (a 8 0)), (0, .ref b)]) : W p l e room_1 s m #[Value.ref b] below meth c H locs 600000 7302250 (lw_Z below #[Value.ref b] s) (F0 m 1263 ls []) := by
  obtain ⟨hx, hb, hr, hml, hown, hts, hX, hbl, hlocks, hgv⟩ := C0
  have hA : ∀ q : Nat, s.heap.size ≤ q → (fun q : Nat => s.heap.size ≤ q) q := fun _ h => h
  have hbA : ¬ (fun q : Nat => s.heap.size ≤ q) b := Nat.not_le.mpr hbl
  refine lv_aload_n hx hb dL_law_1263 rfl (lv_at hl 2 rfl) ?_
  obtain ⟨r, n1, m1, hf3, hf4, hR1⟩ := op_image hR 
  refine cV (X := []) (Y := wX4 E bm m') (w := (wX3 E a n ++ wX4 E bm m')) (w' := (wX3 E a n1 ++ wX4 E bm m')) (q0 := 0) lk_L_149 hx hb hml hown hE hA (c_X3_image l E a n  r n1 hf3) rfl rfl hP hD hS rfl rfl ⟨rfl, rfl, Nat.le_of_ble_eq_true rfl, Nat.le_of_ble_eq_true rfl⟩ hl.1 (As := []) (rest := []) rfl rfl (Nat.le_of_ble_eq_true rfl) ⟨Nat.le_refl _, Nat.le_refl _⟩ dL_law_1264 (fun H locs hP hD hS => ?_)
  refine W.eq (g2 := F0 m 1267 ls [.int r]) rfl ?_
  refine lv_aload_n hx hb dL_law_1267 rfl (lv_at hl 1 rfl) ?_
  refine cV (X := wX3 E a n1) (Y := []) (w := (wX3 E a n1 ++ wX4 E bm m')) (w' := (wX3 E a n1 ++ wX4 E bm m1)) (q0 := 0) lk_L_152 hx hb hml hown hE hA (c_X4_image l E bm m'  r m1 hf4) rfl rfl hP hD hS rfl rfl ⟨rfl, rfl, Nat.le_of_ble_eq_true rfl, Nat.le_of_ble_eq_true rfl⟩ hl.1 (As := []) (rest := [.int r]) rfl rfl (Nat.le_of_ble_eq_true rfl) ⟨Nat.le_refl _, Nat.le_refl _⟩ dL_law_1268 (fun H locs hP hD hS => ?_)
  refine W.eq (g2 := F0 m 1271 ls [.int r, .int r]) rfl ?_
  refine lv_icmp_eq (tgt := 1348) hx hb dL_law_1271 (by decide) (fun _ => ?_) (fun c9 => absurd rfl c9)
  exact next n1 m1 H locs ls hR1 hP hD hS hl
set_option maxHeartbeats 4000000 in
set_option maxRecDepth 100000 in
theorem law_undo {p : Program} {l : Launch} {e : Env} {s : State} {m : MethodId} {below : List Frame} {meth : Method} {c : Code} {b L : Nat} {xs : Nat → Int32} {E : EV} {a : Nat → Nat → Nat} {bm : Nat → Nat} {x3 : Int32} (C0 : lw_At p s m meth c b L xs) (hE : Ev E (fun q : Nat => s.heap.size ≤ q) s) (h1 : vp_in (x3 + (1 : Int32)) L) (h2 : vp_in (x3 + (2 : Int32)) L) (h3 : vp_in (x3 + (3 : Int32)) L) (h4 : vp_in (x3 + (4 : Int32)) L) (h5 : vp_in (x3 + (5 : Int32)) L)
    (next : ∀ (n : NS) (m' : MS) (H : Heap) (locs : List Loc) (ls : Array Slot), Rel n m' → va_P E.1 vwCl (wX3 E a n ++ wX4 E bm m') H → va_D (fun q : Nat => s.heap.size ≤ q) (wX3 E a n ++ wX4 E bm m') → va_S (fun q : Nat => s.heap.size ≤ q) s.heap H locs → lv_has ls 4 [(3, .int x3), (2, .ref (bm 0)), (1, .ref (a 8 0)), (0, .ref b)] → W p l e room_1 s m #[Value.ref b] below meth c H locs 600000 7302250 (lw_Z below #[Value.ref b] s) (F0 m 1348 ls []))
    (n : NS) (m' : MS) (H : Heap) (locs : List Loc) (ls : Array Slot) (hR : Rel n m') (hP : va_P E.1 vwCl (wX3 E a n ++ wX4 E bm m') H) (hD : va_D (fun q : Nat => s.heap.size ≤ q) (wX3 E a n ++ wX4 E bm m')) (hS : va_S (fun q : Nat => s.heap.size ≤ q) s.heap H locs) (hl : lv_has ls 4 [(3, .int x3), (2, .ref (bm 0)), (1, .ref (a 8 0)), (0, .ref b)]) : W p l e room_1 s m #[Value.ref b] below meth c H locs 600000 7302250 (lw_Z below #[Value.ref b] s) (F0 m 1276 ls []) := by
  obtain ⟨hx, hb, hr, hml, hown, hts, hX, hbl, hlocks, hgv⟩ := C0
  have hA : ∀ q : Nat, s.heap.size ≤ q → (fun q : Nat => s.heap.size ≤ q) q := fun _ h => h
  have hbA : ¬ (fun q : Nat => s.heap.size ≤ q) b := Nat.not_le.mpr hbl
  refine lv_aload_n hx hb dL_law_1276 rfl (lv_at hl 2 rfl) ?_
  obtain ⟨r, n1, m1, hf3, hf4, hR1⟩ := op_undo hR 
  refine cV (X := []) (Y := wX4 E bm m') (w := (wX3 E a n ++ wX4 E bm m')) (w' := (wX3 E a n1 ++ wX4 E bm m')) (q0 := 0) lk_L_153 hx hb hml hown hE hA (c_X3_undo l E a n  r n1 hf3) rfl rfl hP hD hS rfl rfl ⟨rfl, rfl, Nat.le_of_ble_eq_true rfl, Nat.le_of_ble_eq_true rfl⟩ hl.1 (As := []) (rest := []) rfl rfl (Nat.le_of_ble_eq_true rfl) ⟨Nat.le_refl _, Nat.le_refl _⟩ dL_law_1277 (fun H locs hP hD hS => ?_)
  refine W.eq (g2 := F0 m 1280 ls [.int r]) rfl ?_
  refine lv_aload_n hx hb dL_law_1280 rfl (lv_at hl 1 rfl) ?_
  refine cV (X := wX3 E a n1) (Y := []) (w := (wX3 E a n1 ++ wX4 E bm m')) (w' := (wX3 E a n1 ++ wX4 E bm m1)) (q0 := 0) lk_L_156 hx hb hml hown hE hA (c_X4_undo l E bm m'  r m1 hf4) rfl rfl hP hD hS rfl rfl ⟨rfl, rfl, Nat.le_of_ble_eq_true rfl, Nat.le_of_ble_eq_true rfl⟩ hl.1 (As := []) (rest := [.int r]) rfl rfl (Nat.le_of_ble_eq_true rfl) ⟨Nat.le_refl _, Nat.le_refl _⟩ dL_law_1281 (fun H locs hP hD hS => ?_)
  refine W.eq (g2 := F0 m 1284 ls [.int r, .int r]) rfl ?_
  refine lv_icmp_eq (tgt := 1348) hx hb dL_law_1284 (by decide) (fun _ => ?_) (fun c9 => absurd rfl c9)
  exact next n1 m1 H locs ls hR1 hP hD hS hl
set_option maxHeartbeats 4000000 in
set_option maxRecDepth 100000 in
theorem law_tear {p : Program} {l : Launch} {e : Env} {s : State} {m : MethodId} {below : List Frame} {meth : Method} {c : Code} {b L : Nat} {xs : Nat → Int32} {E : EV} {a : Nat → Nat → Nat} {bm : Nat → Nat} {x3 : Int32} (C0 : lw_At p s m meth c b L xs) (hE : Ev E (fun q : Nat => s.heap.size ≤ q) s) (h1 : vp_in (x3 + (1 : Int32)) L) (h2 : vp_in (x3 + (2 : Int32)) L) (h3 : vp_in (x3 + (3 : Int32)) L) (h4 : vp_in (x3 + (4 : Int32)) L) (h5 : vp_in (x3 + (5 : Int32)) L)
    (next : ∀ (n : NS) (m' : MS) (H : Heap) (locs : List Loc) (ls : Array Slot), Rel n m' → va_P E.1 vwCl (wX3 E a n ++ wX4 E bm m') H → va_D (fun q : Nat => s.heap.size ≤ q) (wX3 E a n ++ wX4 E bm m') → va_S (fun q : Nat => s.heap.size ≤ q) s.heap H locs → lv_has ls 4 [(3, .int x3), (2, .ref (bm 0)), (1, .ref (a 8 0)), (0, .ref b)] → W p l e room_1 s m #[Value.ref b] below meth c H locs 600000 7302250 (lw_Z below #[Value.ref b] s) (F0 m 1348 ls []))
    (n : NS) (m' : MS) (H : Heap) (locs : List Loc) (ls : Array Slot) (hR : Rel n m') (hP : va_P E.1 vwCl (wX3 E a n ++ wX4 E bm m') H) (hD : va_D (fun q : Nat => s.heap.size ≤ q) (wX3 E a n ++ wX4 E bm m')) (hS : va_S (fun q : Nat => s.heap.size ≤ q) s.heap H locs) (hl : lv_has ls 4 [(3, .int x3), (2, .ref (bm 0)), (1, .ref (a 8 0)), (0, .ref b)]) : W p l e room_1 s m #[Value.ref b] below meth c H locs 600000 7302250 (lw_Z below #[Value.ref b] s) (F0 m 1289 ls []) := by
  obtain ⟨hx, hb, hr, hml, hown, hts, hX, hbl, hlocks, hgv⟩ := C0
  have hA : ∀ q : Nat, s.heap.size ≤ q → (fun q : Nat => s.heap.size ≤ q) q := fun _ h => h
  have hbA : ¬ (fun q : Nat => s.heap.size ≤ q) b := Nat.not_le.mpr hbl
  refine lv_aload_n hx hb dL_law_1289 rfl (lv_at hl 2 rfl) ?_
  obtain ⟨r, n1, m1, hf3, hf4, hR1⟩ := op_tear hR 
  refine cV (X := []) (Y := wX4 E bm m') (w := (wX3 E a n ++ wX4 E bm m')) (w' := (wX3 E a n1 ++ wX4 E bm m')) (q0 := 0) lk_L_157 hx hb hml hown hE hA (c_X3_tear l E a n  r n1 hf3) rfl rfl hP hD hS rfl rfl ⟨rfl, rfl, Nat.le_of_ble_eq_true rfl, Nat.le_of_ble_eq_true rfl⟩ hl.1 (As := []) (rest := []) rfl rfl (Nat.le_of_ble_eq_true rfl) ⟨Nat.le_refl _, Nat.le_refl _⟩ dL_law_1290 (fun H locs hP hD hS => ?_)
  refine W.eq (g2 := F0 m 1293 ls [.int r]) rfl ?_
  refine lv_aload_n hx hb dL_law_1293 rfl (lv_at hl 1 rfl) ?_
  refine cV (X := wX3 E a n1) (Y := []) (w := (wX3 E a n1 ++ wX4 E bm m')) (w' := (wX3 E a n1 ++ wX4 E bm m1)) (q0 := 0) lk_L_160 hx hb hml hown hE hA (c_X4_tear l E bm m'  r m1 hf4) rfl rfl hP hD hS rfl rfl ⟨rfl, rfl, Nat.le_of_ble_eq_true rfl, Nat.le_of_ble_eq_true rfl⟩ hl.1 (As := []) (rest := [.int r]) rfl rfl (Nat.le_of_ble_eq_true rfl) ⟨Nat.le_refl _, Nat.le_refl _⟩ dL_law_1294 (fun H locs hP hD hS => ?_)
  refine W.eq (g2 := F0 m 1297 ls [.int r, .int r]) rfl ?_
  refine lv_icmp_eq (tgt := 1348) hx hb dL_law_1297 (by decide) (fun _ => ?_) (fun c9 => absurd rfl c9)
  exact next n1 m1 H locs ls hR1 hP hD hS hl
set_option maxHeartbeats 4000000 in
set_option maxRecDepth 100000 in
theorem law_count {p : Program} {l : Launch} {e : Env} {s : State} {m : MethodId} {below : List Frame} {meth : Method} {c : Code} {b L : Nat} {xs : Nat → Int32} {E : EV} {a : Nat → Nat → Nat} {bm : Nat → Nat} {x3 : Int32} (C0 : lw_At p s m meth c b L xs) (hE : Ev E (fun q : Nat => s.heap.size ≤ q) s) (h1 : vp_in (x3 + (1 : Int32)) L) (h2 : vp_in (x3 + (2 : Int32)) L) (h3 : vp_in (x3 + (3 : Int32)) L) (h4 : vp_in (x3 + (4 : Int32)) L) (h5 : vp_in (x3 + (5 : Int32)) L)
    (next : ∀ (n : NS) (m' : MS) (H : Heap) (locs : List Loc) (ls : Array Slot), Rel n m' → va_P E.1 vwCl (wX3 E a n ++ wX4 E bm m') H → va_D (fun q : Nat => s.heap.size ≤ q) (wX3 E a n ++ wX4 E bm m') → va_S (fun q : Nat => s.heap.size ≤ q) s.heap H locs → lv_has ls 4 [(3, .int x3), (2, .ref (bm 0)), (1, .ref (a 8 0)), (0, .ref b)] → W p l e room_1 s m #[Value.ref b] below meth c H locs 600000 7302250 (lw_Z below #[Value.ref b] s) (F0 m 1348 ls []))
    (n : NS) (m' : MS) (H : Heap) (locs : List Loc) (ls : Array Slot) (hR : Rel n m') (hP : va_P E.1 vwCl (wX3 E a n ++ wX4 E bm m') H) (hD : va_D (fun q : Nat => s.heap.size ≤ q) (wX3 E a n ++ wX4 E bm m')) (hS : va_S (fun q : Nat => s.heap.size ≤ q) s.heap H locs) (hl : lv_has ls 4 [(3, .int x3), (2, .ref (bm 0)), (1, .ref (a 8 0)), (0, .ref b)]) : W p l e room_1 s m #[Value.ref b] below meth c H locs 600000 7302250 (lw_Z below #[Value.ref b] s) (F0 m 1302 ls []) := by
  obtain ⟨hx, hb, hr, hml, hown, hts, hX, hbl, hlocks, hgv⟩ := C0
  have hA : ∀ q : Nat, s.heap.size ≤ q → (fun q : Nat => s.heap.size ≤ q) q := fun _ h => h
  have hbA : ¬ (fun q : Nat => s.heap.size ≤ q) b := Nat.not_le.mpr hbl
  refine lv_aload_n hx hb dL_law_1302 rfl (lv_at hl 2 rfl) ?_
  refine lv_aload_n hx hb dL_law_1303 rfl (lv_at hl 3 rfl) ?_
  refine lv_iload_n hx hb dL_law_1304 rfl (lv_at hl 0 rfl) ?_
  refine lv_iconst (v := (1 : Int32)) hx hb dL_law_1305 (by decide) ?_
  refine lv_iadd hx hb dL_law_1306 ?_
  refine va_sld hx hb hX hbl hbA hS h1 dL_law_1307 ?_
  obtain ⟨r, n1, m1, hf3, hf4, hR1⟩ := op_count hR (xs (x3 + (1 : Int32)).toNatClampNeg)
  refine cV (X := []) (Y := wX4 E bm m') (w := (wX3 E a n ++ wX4 E bm m')) (w' := (wX3 E a n1 ++ wX4 E bm m')) (q0 := 0) lk_L_161 hx hb hml hown hE hA (c_X3_count l E a n (xs (x3 + (1 : Int32)).toNatClampNeg) r n1 hf3) rfl rfl hP hD hS rfl rfl ⟨rfl, rfl, Nat.le_of_ble_eq_true rfl, Nat.le_of_ble_eq_true rfl⟩ hl.1 (As := [.int (xs (x3 + (1 : Int32)).toNatClampNeg)]) (rest := []) rfl rfl (Nat.le_of_ble_eq_true rfl) ⟨Nat.le_refl _, Nat.le_refl _⟩ dL_law_1308 (fun H locs hP hD hS => ?_)
  refine W.eq (g2 := F0 m 1311 ls [.int r]) rfl ?_
  refine lv_aload_n hx hb dL_law_1311 rfl (lv_at hl 1 rfl) ?_
  refine lv_aload_n hx hb dL_law_1312 rfl (lv_at hl 3 rfl) ?_
  refine lv_iload_n hx hb dL_law_1313 rfl (lv_at hl 0 rfl) ?_
  refine lv_iconst (v := (1 : Int32)) hx hb dL_law_1314 (by decide) ?_
  refine lv_iadd hx hb dL_law_1315 ?_
  refine va_sld hx hb hX hbl hbA hS h1 dL_law_1316 ?_
  refine cV (X := wX3 E a n1) (Y := []) (w := (wX3 E a n1 ++ wX4 E bm m')) (w' := (wX3 E a n1 ++ wX4 E bm m1)) (q0 := 0) lk_L_164 hx hb hml hown hE hA (c_X4_count l E bm m' (xs (x3 + (1 : Int32)).toNatClampNeg) r m1 hf4) rfl rfl hP hD hS rfl rfl ⟨rfl, rfl, Nat.le_of_ble_eq_true rfl, Nat.le_of_ble_eq_true rfl⟩ hl.1 (As := [.int (xs (x3 + (1 : Int32)).toNatClampNeg)]) (rest := [.int r]) rfl rfl (Nat.le_of_ble_eq_true rfl) ⟨Nat.le_refl _, Nat.le_refl _⟩ dL_law_1317 (fun H locs hP hD hS => ?_)
  refine W.eq (g2 := F0 m 1320 ls [.int r, .int r]) rfl ?_
  refine lv_icmp_eq (tgt := 1348) hx hb dL_law_1320 (by decide) (fun _ => ?_) (fun c9 => absurd rfl c9)
  exact next n1 m1 H locs ls hR1 hP hD hS hl
set_option maxHeartbeats 4000000 in
set_option maxRecDepth 100000 in
theorem law_status {p : Program} {l : Launch} {e : Env} {s : State} {m : MethodId} {below : List Frame} {meth : Method} {c : Code} {b L : Nat} {xs : Nat → Int32} {E : EV} {a : Nat → Nat → Nat} {bm : Nat → Nat} {x3 : Int32} (C0 : lw_At p s m meth c b L xs) (hE : Ev E (fun q : Nat => s.heap.size ≤ q) s) (h1 : vp_in (x3 + (1 : Int32)) L) (h2 : vp_in (x3 + (2 : Int32)) L) (h3 : vp_in (x3 + (3 : Int32)) L) (h4 : vp_in (x3 + (4 : Int32)) L) (h5 : vp_in (x3 + (5 : Int32)) L)
    (next : ∀ (n : NS) (m' : MS) (H : Heap) (locs : List Loc) (ls : Array Slot), Rel n m' → va_P E.1 vwCl (wX3 E a n ++ wX4 E bm m') H → va_D (fun q : Nat => s.heap.size ≤ q) (wX3 E a n ++ wX4 E bm m') → va_S (fun q : Nat => s.heap.size ≤ q) s.heap H locs → lv_has ls 4 [(3, .int x3), (2, .ref (bm 0)), (1, .ref (a 8 0)), (0, .ref b)] → W p l e room_1 s m #[Value.ref b] below meth c H locs 600000 7302250 (lw_Z below #[Value.ref b] s) (F0 m 1348 ls []))
    (n : NS) (m' : MS) (H : Heap) (locs : List Loc) (ls : Array Slot) (hR : Rel n m') (hP : va_P E.1 vwCl (wX3 E a n ++ wX4 E bm m') H) (hD : va_D (fun q : Nat => s.heap.size ≤ q) (wX3 E a n ++ wX4 E bm m')) (hS : va_S (fun q : Nat => s.heap.size ≤ q) s.heap H locs) (hl : lv_has ls 4 [(3, .int x3), (2, .ref (bm 0)), (1, .ref (a 8 0)), (0, .ref b)]) : W p l e room_1 s m #[Value.ref b] below meth c H locs 600000 7302250 (lw_Z below #[Value.ref b] s) (F0 m 1325 ls []) := by
  obtain ⟨hx, hb, hr, hml, hown, hts, hX, hbl, hlocks, hgv⟩ := C0
  have hA : ∀ q : Nat, s.heap.size ≤ q → (fun q : Nat => s.heap.size ≤ q) q := fun _ h => h
  have hbA : ¬ (fun q : Nat => s.heap.size ≤ q) b := Nat.not_le.mpr hbl
  refine lv_aload_n hx hb dL_law_1325 rfl (lv_at hl 2 rfl) ?_
  refine lv_aload_n hx hb dL_law_1326 rfl (lv_at hl 3 rfl) ?_
  refine lv_iload_n hx hb dL_law_1327 rfl (lv_at hl 0 rfl) ?_
  refine lv_iconst (v := (1 : Int32)) hx hb dL_law_1328 (by decide) ?_
  refine lv_iadd hx hb dL_law_1329 ?_
  refine va_sld hx hb hX hbl hbA hS h1 dL_law_1330 ?_
  obtain ⟨r, n1, m1, hf3, hf4, hR1⟩ := op_status hR (xs (x3 + (1 : Int32)).toNatClampNeg)
  refine cV (X := []) (Y := wX4 E bm m') (w := (wX3 E a n ++ wX4 E bm m')) (w' := (wX3 E a n1 ++ wX4 E bm m')) (q0 := 0) lk_L_165 hx hb hml hown hE hA (c_X3_status l E a n (xs (x3 + (1 : Int32)).toNatClampNeg) r n1 hf3) rfl rfl hP hD hS rfl rfl ⟨rfl, rfl, Nat.le_of_ble_eq_true rfl, Nat.le_of_ble_eq_true rfl⟩ hl.1 (As := [.int (xs (x3 + (1 : Int32)).toNatClampNeg)]) (rest := []) rfl rfl (Nat.le_of_ble_eq_true rfl) ⟨Nat.le_refl _, Nat.le_refl _⟩ dL_law_1331 (fun H locs hP hD hS => ?_)
  refine W.eq (g2 := F0 m 1334 ls [.int r]) rfl ?_
  refine lv_aload_n hx hb dL_law_1334 rfl (lv_at hl 1 rfl) ?_
  refine lv_aload_n hx hb dL_law_1335 rfl (lv_at hl 3 rfl) ?_
  refine lv_iload_n hx hb dL_law_1336 rfl (lv_at hl 0 rfl) ?_
  refine lv_iconst (v := (1 : Int32)) hx hb dL_law_1337 (by decide) ?_
  refine lv_iadd hx hb dL_law_1338 ?_
  refine va_sld hx hb hX hbl hbA hS h1 dL_law_1339 ?_
  refine cV (X := wX3 E a n1) (Y := []) (w := (wX3 E a n1 ++ wX4 E bm m')) (w' := (wX3 E a n1 ++ wX4 E bm m1)) (q0 := 0) lk_L_168 hx hb hml hown hE hA (c_X4_status l E bm m' (xs (x3 + (1 : Int32)).toNatClampNeg) r m1 hf4) rfl rfl hP hD hS rfl rfl ⟨rfl, rfl, Nat.le_of_ble_eq_true rfl, Nat.le_of_ble_eq_true rfl⟩ hl.1 (As := [.int (xs (x3 + (1 : Int32)).toNatClampNeg)]) (rest := [.int r]) rfl rfl (Nat.le_of_ble_eq_true rfl) ⟨Nat.le_refl _, Nat.le_refl _⟩ dL_law_1340 (fun H locs hP hD hS => ?_)
  refine W.eq (g2 := F0 m 1343 ls [.int r, .int r]) rfl ?_
  refine lv_icmp_eq (tgt := 1348) hx hb dL_law_1343 (by decide) (fun _ => ?_) (fun c9 => absurd rfl c9)
  exact next n1 m1 H locs ls hR1 hP hD hS hl
