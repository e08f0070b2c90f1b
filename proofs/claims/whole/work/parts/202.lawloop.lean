theorem law_in {i L : Nat} (hi : i ≤ 4000) (hL : L ≤ 4000) (h : ¬ nI L - (6 : Int32) < nI i) : i + 6 ≤ L := by
  rcases Nat.lt_or_ge L 6 with q | q
  · refine absurd ?_ h
    have h1 : nI L - (6 : Int32) < 0 := pk_sneg (b := 6) (by omega) q
    have h2 : (0 : Int32) ≤ nI i := nI_pos' (by omega)
    exact Int32.lt_of_lt_of_le h1 h2
  · rw [show ((6 : Int32)) = nI 6 from rfl, pk_sub q] at h
    have h3 : ¬ L - 6 < i := fun z => h (nI_lt z (by omega))
    omega
set_option maxHeartbeats 8000000 in
set_option maxRecDepth 100000 in
theorem law_loop {p : Program} {l : Launch} {e : Env} {s : State} {m : MethodId} {below : List Frame} {meth : Method} {c : Code} {b L : Nat} {xs : Nat → Int32} {E : EV} {a : Nat → Nat → Nat} {bm : Nat → Nat} (hL : L ≤ 3072) (C0 : lw_At p s m meth c b L xs) (hE : Ev E (fun q : Nat => s.heap.size ≤ q) s) :
    ∀ (k i : Nat) (x3 : Int32), i ≤ L + 6 → L + 7 ≤ i + k → x3 = nI i → ∀ (n : NS) (m' : MS) (H : Heap) (locs : List Loc) (ls : Array Slot), Rel n m' → va_P E.1 vwCl (wX3 E a n ++ wX4 E bm m') H → va_D (fun q : Nat => s.heap.size ≤ q) (wX3 E a n ++ wX4 E bm m') → va_S (fun q : Nat => s.heap.size ≤ q) s.heap H locs → lv_has ls 4 [(3, .int x3), (2, .ref (bm 0)), (1, .ref (a 8 0)), (0, .ref b)] → W p l e room_1 s m #[Value.ref b] below meth c H locs 600000 7302250 (lw_Z below #[Value.ref b] s) (F0 m 18 ls []) := by
  obtain ⟨hx, hb, hr, hml, hown, hts, hX, hbl, hlocks, hgv⟩ := id C0
  have hbA : ¬ (fun q : Nat => s.heap.size ≤ q) b := Nat.not_le.mpr hbl
  intro k
  induction k with
  | zero =>
    intro i x3 h1 h2
    exact absurd h2 (by omega)
  | succ k ih =>
    intro i x3 hi hin ex n m' H locs ls hR hP hD hS hl
    refine lv_iload_n hx hb dL_law_18 rfl (lv_at hl 0 rfl) ?_
    refine lv_aload_n hx hb dL_law_19 rfl (lv_at hl 3 rfl) ?_
    refine va_slen hx hb hX hbl hbA hS dL_law_20 ?_
    refine lv_bipush (v := (6 : Int32)) hx hb dL_law_21 (by decide) ?_
    refine lv_isub hx hb dL_law_23 ?_
    refine lv_icmp_gt (tgt := 1354) hx hb dL_law_24 (by decide) (fun c9 => ?_) (fun c9 => ?_)
    · refine lv_iconst (v := 1) hx hb dL_law_1354 (by decide) ?_
      refine va_forget (fun q hq => hS.2.2 q hq) ?_
      exact lw_ret hx hb hr hlocks dL_law_1355
    · have hlt : i + 6 ≤ L := by
        rw [ex] at c9
        exact law_in (by omega) (by omega) c9
      have h0 : vp_in x3 L := by rw [ex]; exact vp_in_nI (by omega) (by omega)
      have h1 : vp_in (x3 + (1 : Int32)) L := by rw [ex, show ((1 : Int32)) = nI 1 from rfl, nI_add]; exact vp_in_nI (by omega) (by omega)
      have h2 : vp_in (x3 + (2 : Int32)) L := by rw [ex, show ((2 : Int32)) = nI 2 from rfl, nI_add]; exact vp_in_nI (by omega) (by omega)
      have h3 : vp_in (x3 + (3 : Int32)) L := by rw [ex, show ((3 : Int32)) = nI 3 from rfl, nI_add]; exact vp_in_nI (by omega) (by omega)
      have h4 : vp_in (x3 + (4 : Int32)) L := by rw [ex, show ((4 : Int32)) = nI 4 from rfl, nI_add]; exact vp_in_nI (by omega) (by omega)
      have h5 : vp_in (x3 + (5 : Int32)) L := by rw [ex, show ((5 : Int32)) = nI 5 from rfl, nI_add]; exact vp_in_nI (by omega) (by omega)
      have next : ∀ (n : NS) (m' : MS) (H : Heap) (locs : List Loc) (ls : Array Slot), Rel n m' → va_P E.1 vwCl (wX3 E a n ++ wX4 E bm m') H → va_D (fun q : Nat => s.heap.size ≤ q) (wX3 E a n ++ wX4 E bm m') → va_S (fun q : Nat => s.heap.size ≤ q) s.heap H locs → lv_has ls 4 [(3, .int x3), (2, .ref (bm 0)), (1, .ref (a 8 0)), (0, .ref b)] → W p l e room_1 s m #[Value.ref b] below meth c H locs 600000 7302250 (lw_Z below #[Value.ref b] s) (F0 m 1348 ls []) := by
        intro n m' H locs ls hR hP hD hS hl
        refine lv_iinc (v := x3 + (6 : Int32)) (lv' := [(3, .int (x3 + (6 : Int32))), (2, .ref (bm 0)), (1, .ref (a 8 0)), (0, .ref b)]) hx hb dL_law_1348 hl (k := 0) rfl rfl (by decide) rfl (fun ls hl => ?_)
        refine lv_goto (tgt := 18) hx hb dL_law_1351 (by decide) ?_
        exact ih (i + 6) (x3 + (6 : Int32)) (by omega) (by omega) (by rw [ex, show ((6 : Int32)) = nI 6 from rfl, nI_add]) n m' H locs ls hR hP hD hS hl
      refine lv_aload_n hx hb dL_law_27 rfl (lv_at hl 3 rfl) ?_
      refine lv_iload_n hx hb dL_law_28 rfl (lv_at hl 0 rfl) ?_
      refine va_sld hx hb hX hbl hbA hS h0 dL_law_29 ?_
      refine lv_bipush (v := (63 : Int32)) hx hb dL_law_30 (by decide) ?_
      refine lv_iand hx hb dL_law_32 ?_
      refine lv_topi (fun z ez => ?_)
      by_cases c0 : z = (0 : Int32)
      · refine lv_tableIn (off := 163) (tgt := 196) hx hb dL_law_33 (by rw [c0]; decide) (by rw [c0]; decide) (by rw [c0]; rfl) (by decide) ?_
        exact law_play C0 hE h1 h2 h3 h4 h5 next n m' H locs ls hR hP hD hS hl
      by_cases c1 : z = (1 : Int32)
      · refine lv_tableIn (off := 206) (tgt := 239) hx hb dL_law_33 (by rw [c1]; decide) (by rw [c1]; decide) (by rw [c1]; rfl) (by decide) ?_
        exact law_now C0 hE h1 h2 h3 h4 h5 next n m' H locs ls hR hP hD hS hl
      by_cases c2 : z = (2 : Int32)
      · refine lv_tableIn (off := 229) (tgt := 262) hx hb dL_law_33 (by rw [c2]; decide) (by rw [c2]; decide) (by rw [c2]; rfl) (by decide) ?_
        exact law_person C0 hE h1 h2 h3 h4 h5 next n m' H locs ls hR hP hD hS hl
      by_cases c3 : z = (3 : Int32)
      · refine lv_tableIn (off := 252) (tgt := 285) hx hb dL_law_33 (by rw [c3]; decide) (by rw [c3]; decide) (by rw [c3]; rfl) (by decide) ?_
        exact law_of C0 hE h1 h2 h3 h4 h5 next n m' H locs ls hR hP hD hS hl
      by_cases c4 : z = (4 : Int32)
      · refine lv_tableIn (off := 285) (tgt := 318) hx hb dL_law_33 (by rw [c4]; decide) (by rw [c4]; decide) (by rw [c4]; rfl) (by decide) ?_
        exact law_scores C0 hE h1 h2 h3 h4 h5 next n m' H locs ls hR hP hD hS hl
      by_cases c5 : z = (5 : Int32)
      · refine lv_tableIn (off := 328) (tgt := 361) hx hb dL_law_33 (by rw [c5]; decide) (by rw [c5]; decide) (by rw [c5]; rfl) (by decide) ?_
        exact law_set C0 hE h1 h2 h3 h4 h5 next n m' H locs ls hR hP hD hS hl
      by_cases c6 : z = (6 : Int32)
      · refine lv_tableIn (off := 371) (tgt := 404) hx hb dL_law_33 (by rw [c6]; decide) (by rw [c6]; decide) (by rw [c6]; rfl) (by decide) ?_
        exact law_turn C0 hE h1 h2 h3 h4 h5 next n m' H locs ls hR hP hD hS hl
      by_cases c7 : z = (7 : Int32)
      · refine lv_tableIn (off := 404) (tgt := 437) hx hb dL_law_33 (by rw [c7]; decide) (by rw [c7]; decide) (by rw [c7]; rfl) (by decide) ?_
        exact law_as C0 hE h1 h2 h3 h4 h5 next n m' H locs ls hR hP hD hS hl
      by_cases c8 : z = (8 : Int32)
      · refine lv_tableIn (off := 437) (tgt := 470) hx hb dL_law_33 (by rw [c8]; decide) (by rw [c8]; decide) (by rw [c8]; rfl) (by decide) ?_
        exact law_swap C0 hE h1 h2 h3 h4 h5 next n m' H locs ls hR hP hD hS hl
      by_cases c9 : z = (9 : Int32)
      · refine lv_tableIn (off := 470) (tgt := 503) hx hb dL_law_33 (by rw [c9]; decide) (by rw [c9]; decide) (by rw [c9]; rfl) (by decide) ?_
        exact law_moments C0 hE h1 h2 h3 h4 h5 next n m' H locs ls hR hP hD hS hl
      by_cases c10 : z = (10 : Int32)
      · refine lv_tableIn (off := 493) (tgt := 526) hx hb dL_law_33 (by rw [c10]; decide) (by rw [c10]; decide) (by rw [c10]; rfl) (by decide) ?_
        exact law_note C0 hE h1 h2 h3 h4 h5 next n m' H locs ls hR hP hD hS hl
      by_cases c11 : z = (11 : Int32)
      · refine lv_tableIn (off := 526) (tgt := 559) hx hb dL_law_33 (by rw [c11]; decide) (by rw [c11]; decide) (by rw [c11]; rfl) (by decide) ?_
        exact law_on C0 hE h1 h2 h3 h4 h5 next n m' H locs ls hR hP hD hS hl
      by_cases c12 : z = (12 : Int32)
      · refine lv_tableIn (off := 569) (tgt := 602) hx hb dL_law_33 (by rw [c12]; decide) (by rw [c12]; decide) (by rw [c12]; rfl) (by decide) ?_
        exact law_house C0 hE h1 h2 h3 h4 h5 next n m' H locs ls hR hP hD hS hl
      by_cases c13 : z = (13 : Int32)
      · refine lv_tableIn (off := 592) (tgt := 625) hx hb dL_law_33 (by rw [c13]; decide) (by rw [c13]; decide) (by rw [c13]; rfl) (by decide) ?_
        exact law_heard C0 hE h1 h2 h3 h4 h5 next n m' H locs ls hR hP hD hS hl
      by_cases c14 : z = (14 : Int32)
      · refine lv_tableIn (off := 625) (tgt := 658) hx hb dL_law_33 (by rw [c14]; decide) (by rw [c14]; decide) (by rw [c14]; rfl) (by decide) ?_
        exact law_does C0 hE h1 h2 h3 h4 h5 next n m' H locs ls hR hP hD hS hl
      by_cases c15 : z = (15 : Int32)
      · refine lv_tableIn (off := 658) (tgt := 691) hx hb dL_law_33 (by rw [c15]; decide) (by rw [c15]; decide) (by rw [c15]; rfl) (by decide) ?_
        exact law_comes C0 hE h1 h2 h3 h4 h5 next n m' H locs ls hR hP hD hS hl
      by_cases c16 : z = (16 : Int32)
      · refine lv_tableIn (off := 691) (tgt := 724) hx hb dL_law_33 (by rw [c16]; decide) (by rw [c16]; decide) (by rw [c16]; rfl) (by decide) ?_
        exact law_place C0 hE h1 h2 h3 h4 h5 next n m' H locs ls hR hP hD hS hl
      by_cases c17 : z = (17 : Int32)
      · refine lv_tableIn (off := 724) (tgt := 757) hx hb dL_law_33 (by rw [c17]; decide) (by rw [c17]; decide) (by rw [c17]; rfl) (by decide) ?_
        exact law_kind C0 hE h1 h2 h3 h4 h5 next n m' H locs ls hR hP hD hS hl
      by_cases c18 : z = (18 : Int32)
      · refine lv_tableIn (off := 757) (tgt := 790) hx hb dL_law_33 (by rw [c18]; decide) (by rw [c18]; decide) (by rw [c18]; rfl) (by decide) ?_
        exact law_fresh C0 hE h1 h2 h3 h4 h5 next n m' H locs ls hR hP hD hS hl
      by_cases c19 : z = (19 : Int32)
      · refine lv_tableIn (off := 800) (tgt := 833) hx hb dL_law_33 (by rw [c19]; decide) (by rw [c19]; decide) (by rw [c19]; rfl) (by decide) ?_
        exact law_cue C0 hE h1 h2 h3 h4 h5 next n m' H locs ls hR hP hD hS hl
      by_cases c20 : z = (20 : Int32)
      · refine lv_tableIn (off := 823) (tgt := 856) hx hb dL_law_33 (by rw [c20]; decide) (by rw [c20]; decide) (by rw [c20]; rfl) (by decide) ?_
        exact law_doze C0 hE h1 h2 h3 h4 h5 next n m' H locs ls hR hP hD hS hl
      by_cases c21 : z = (21 : Int32)
      · refine lv_tableIn (off := 846) (tgt := 879) hx hb dL_law_33 (by rw [c21]; decide) (by rw [c21]; decide) (by rw [c21]; rfl) (by decide) ?_
        exact law_tense C0 hE h1 h2 h3 h4 h5 next n m' H locs ls hR hP hD hS hl
      by_cases c22 : z = (22 : Int32)
      · refine lv_tableIn (off := 879) (tgt := 912) hx hb dL_law_33 (by rw [c22]; decide) (by rw [c22]; decide) (by rw [c22]; rfl) (by decide) ?_
        exact law_best C0 hE h1 h2 h3 h4 h5 next n m' H locs ls hR hP hD hS hl
      by_cases c23 : z = (23 : Int32)
      · refine lv_tableIn (off := 902) (tgt := 935) hx hb dL_law_33 (by rw [c23]; decide) (by rw [c23]; decide) (by rw [c23]; rfl) (by decide) ?_
        exact law_feed C0 hE h1 h2 h3 h4 h5 next n m' H locs ls hR hP hD hS hl
      by_cases c24 : z = (24 : Int32)
      · refine lv_tableIn (off := 935) (tgt := 968) hx hb dL_law_33 (by rw [c24]; decide) (by rw [c24]; decide) (by rw [c24]; rfl) (by decide) ?_
        exact law_wipe C0 hE h1 h2 h3 h4 h5 next n m' H locs ls hR hP hD hS hl
      by_cases c25 : z = (25 : Int32)
      · refine lv_tableIn (off := 948) (tgt := 981) hx hb dL_law_33 (by rw [c25]; decide) (by rw [c25]; decide) (by rw [c25]; rfl) (by decide) ?_
        exact law_evening C0 hE h1 h2 h3 h4 h5 next n m' H locs ls hR hP hD hS hl
      by_cases c26 : z = (26 : Int32)
      · refine lv_tableIn (off := 961) (tgt := 994) hx hb dL_law_33 (by rw [c26]; decide) (by rw [c26]; decide) (by rw [c26]; rfl) (by decide) ?_
        exact law_sheet C0 hE h1 h2 h3 h4 h5 next n m' H locs ls hR hP hD hS hl
      by_cases c27 : z = (27 : Int32)
      · refine lv_tableIn (off := 1004) (tgt := 1037) hx hb dL_law_33 (by rw [c27]; decide) (by rw [c27]; decide) (by rw [c27]; rfl) (by decide) ?_
        exact law_write C0 hE h1 h2 h3 h4 h5 next n m' H locs ls hR hP hD hS hl
      by_cases c28 : z = (28 : Int32)
      · refine lv_tableIn (off := 1078) (tgt := 1111) hx hb dL_law_33 (by rw [c28]; decide) (by rw [c28]; decide) (by rw [c28]; rfl) (by decide) ?_
        exact law_copy C0 hE h1 h2 h3 h4 h5 next n m' H locs ls hR hP hD hS hl
      by_cases c29 : z = (29 : Int32)
      · refine lv_tableIn (off := 1141) (tgt := 1174) hx hb dL_law_33 (by rw [c29]; decide) (by rw [c29]; decide) (by rw [c29]; rfl) (by decide) ?_
        exact law_lays C0 hE h1 h2 h3 h4 h5 next n m' H locs ls hR hP hD hS hl
      by_cases c30 : z = (30 : Int32)
      · refine lv_tableIn (off := 1164) (tgt := 1197) hx hb dL_law_33 (by rw [c30]; decide) (by rw [c30]; decide) (by rw [c30]; rfl) (by decide) ?_
        exact law_book C0 hE h1 h2 h3 h4 h5 next n m' H locs ls hR hP hD hS hl
      by_cases c31 : z = (31 : Int32)
      · refine lv_tableIn (off := 1197) (tgt := 1230) hx hb dL_law_33 (by rw [c31]; decide) (by rw [c31]; decide) (by rw [c31]; rfl) (by decide) ?_
        exact law_read C0 hE h1 h2 h3 h4 h5 next n m' H locs ls hR hP hD hS hl
      by_cases c32 : z = (32 : Int32)
      · refine lv_tableIn (off := 1230) (tgt := 1263) hx hb dL_law_33 (by rw [c32]; decide) (by rw [c32]; decide) (by rw [c32]; rfl) (by decide) ?_
        exact law_image C0 hE h1 h2 h3 h4 h5 next n m' H locs ls hR hP hD hS hl
      by_cases c33 : z = (33 : Int32)
      · refine lv_tableIn (off := 1243) (tgt := 1276) hx hb dL_law_33 (by rw [c33]; decide) (by rw [c33]; decide) (by rw [c33]; rfl) (by decide) ?_
        exact law_undo C0 hE h1 h2 h3 h4 h5 next n m' H locs ls hR hP hD hS hl
      by_cases c34 : z = (34 : Int32)
      · refine lv_tableIn (off := 1256) (tgt := 1289) hx hb dL_law_33 (by rw [c34]; decide) (by rw [c34]; decide) (by rw [c34]; rfl) (by decide) ?_
        exact law_tear C0 hE h1 h2 h3 h4 h5 next n m' H locs ls hR hP hD hS hl
      by_cases c35 : z = (35 : Int32)
      · refine lv_tableIn (off := 1269) (tgt := 1302) hx hb dL_law_33 (by rw [c35]; decide) (by rw [c35]; decide) (by rw [c35]; rfl) (by decide) ?_
        exact law_count C0 hE h1 h2 h3 h4 h5 next n m' H locs ls hR hP hD hS hl
      by_cases c36 : z = (36 : Int32)
      · refine lv_tableIn (off := 1292) (tgt := 1325) hx hb dL_law_33 (by rw [c36]; decide) (by rw [c36]; decide) (by rw [c36]; rfl) (by decide) ?_
        exact law_status C0 hE h1 h2 h3 h4 h5 next n m' H locs ls hR hP hD hS hl
      refine lv_tableOut (tgt := 1348) hx hb dL_law_33 (by have z0 := lv_neT c0 (a := 0) (by decide); have z1 := lv_neT c1 (a := 1) (by decide); have z2 := lv_neT c2 (a := 2) (by decide); have z3 := lv_neT c3 (a := 3) (by decide); have z4 := lv_neT c4 (a := 4) (by decide); have z5 := lv_neT c5 (a := 5) (by decide); have z6 := lv_neT c6 (a := 6) (by decide); have z7 := lv_neT c7 (a := 7) (by decide); have z8 := lv_neT c8 (a := 8) (by decide); have z9 := lv_neT c9 (a := 9) (by decide); have z10 := lv_neT c10 (a := 10) (by decide); have z11 := lv_neT c11 (a := 11) (by decide); have z12 := lv_neT c12 (a := 12) (by decide); have z13 := lv_neT c13 (a := 13) (by decide); have z14 := lv_neT c14 (a := 14) (by decide); have z15 := lv_neT c15 (a := 15) (by decide); have z16 := lv_neT c16 (a := 16) (by decide); have z17 := lv_neT c17 (a := 17) (by decide); have z18 := lv_neT c18 (a := 18) (by decide); have z19 := lv_neT c19 (a := 19) (by decide); have z20 := lv_neT c20 (a := 20) (by decide); have z21 := lv_neT c21 (a := 21) (by decide); have z22 := lv_neT c22 (a := 22) (by decide); have z23 := lv_neT c23 (a := 23) (by decide); have z24 := lv_neT c24 (a := 24) (by decide); have z25 := lv_neT c25 (a := 25) (by decide); have z26 := lv_neT c26 (a := 26) (by decide); have z27 := lv_neT c27 (a := 27) (by decide); have z28 := lv_neT c28 (a := 28) (by decide); have z29 := lv_neT c29 (a := 29) (by decide); have z30 := lv_neT c30 (a := 30) (by decide); have z31 := lv_neT c31 (a := 31) (by decide); have z32 := lv_neT c32 (a := 32) (by decide); have z33 := lv_neT c33 (a := 33) (by decide); have z34 := lv_neT c34 (a := 34) (by decide); have z35 := lv_neT c35 (a := 35) (by decide); have z36 := lv_neT c36 (a := 36) (by decide); omega) (by decide) ?_
      exact next n m' H locs ls hR hP hD hS hl
