section
-- ===== PART A: goes FIRST, ahead of the names: the tables' words, and 'selects' of the private methods out of them =====
/-- a private method of a class that the tables say can be made, by its rows of tables_1 -/
def lw_okq (q : MethodName × Nat) : Prop := (q.1.cls ≠ "java/lang/invoke/MethodHandle" ∧ q.1.cls ≠ "java/lang/invoke/VarHandle") ∧ Cond.instantiable q.1.cls q.2 ∈ tables_1 ∧ Cond.privateMethod q.1 ∈ tables_1 ∧ Cond.instanceMethod q.1 ∈ tables_1
theorem lw_p0 : lw_okq (⟨"NotedHouse", "finding", "(I)I"⟩, 7) := ⟨⟨by decide +kernel, by decide +kernel⟩, List.mem_of_getElem? (i := 13) (by decide +kernel), List.mem_of_getElem? (i := 150) (by decide +kernel), List.mem_of_getElem? (i := 151) (by decide +kernel)⟩
theorem lw_p1 : lw_okq (⟨"NotedHouse$House", "allNotes", "()I"⟩, 10) := ⟨⟨by decide +kernel, by decide +kernel⟩, List.mem_of_getElem? (i := 21) (by decide +kernel), List.mem_of_getElem? (i := 158) (by decide +kernel), List.mem_of_getElem? (i := 159) (by decide +kernel)⟩
theorem lw_p2 : lw_okq (⟨"NotedHouse$House", "whoDoAsAsked", "()I"⟩, 10) := ⟨⟨by decide +kernel, by decide +kernel⟩, List.mem_of_getElem? (i := 21) (by decide +kernel), List.mem_of_getElem? (i := 165) (by decide +kernel), List.mem_of_getElem? (i := 166) (by decide +kernel)⟩
theorem lw_p3 : lw_okq (⟨"NotedHouse$House", "deedOf", "(I)I"⟩, 10) := ⟨⟨by decide +kernel, by decide +kernel⟩, List.mem_of_getElem? (i := 21) (by decide +kernel), List.mem_of_getElem? (i := 169) (by decide +kernel), List.mem_of_getElem? (i := 170) (by decide +kernel)⟩
theorem lw_p4 : lw_okq (⟨"NotedHouse$House", "cougherDeed", "(I)I"⟩, 10) := ⟨⟨by decide +kernel, by decide +kernel⟩, List.mem_of_getElem? (i := 21) (by decide +kernel), List.mem_of_getElem? (i := 173) (by decide +kernel), List.mem_of_getElem? (i := 174) (by decide +kernel)⟩
theorem lw_p5 : lw_okq (⟨"NotedHouse$House", "neighbourDid", "(II)Z"⟩, 10) := ⟨⟨by decide +kernel, by decide +kernel⟩, List.mem_of_getElem? (i := 21) (by decide +kernel), List.mem_of_getElem? (i := 177) (by decide +kernel), List.mem_of_getElem? (i := 178) (by decide +kernel)⟩
theorem lw_p6 : lw_okq (⟨"NotedHouse$House", "sitterDeed", "(I)I"⟩, 10) := ⟨⟨by decide +kernel, by decide +kernel⟩, List.mem_of_getElem? (i := 21) (by decide +kernel), List.mem_of_getElem? (i := 181) (by decide +kernel), List.mem_of_getElem? (i := 182) (by decide +kernel)⟩
theorem lw_p7 : lw_okq (⟨"NotedHouse$House", "weeperDeed", "(I)I"⟩, 10) := ⟨⟨by decide +kernel, by decide +kernel⟩, List.mem_of_getElem? (i := 21) (by decide +kernel), List.mem_of_getElem? (i := 185) (by decide +kernel), List.mem_of_getElem? (i := 186) (by decide +kernel)⟩
theorem lw_p8 : lw_okq (⟨"NotedHouse$House", "allFresh", "()I"⟩, 10) := ⟨⟨by decide +kernel, by decide +kernel⟩, List.mem_of_getElem? (i := 21) (by decide +kernel), List.mem_of_getElem? (i := 189) (by decide +kernel), List.mem_of_getElem? (i := 190) (by decide +kernel)⟩
theorem lw_p9 : lw_okq (⟨"NotedHouse$House", "seat", "(II)I"⟩, 10) := ⟨⟨by decide +kernel, by decide +kernel⟩, List.mem_of_getElem? (i := 21) (by decide +kernel), List.mem_of_getElem? (i := 198) (by decide +kernel), List.mem_of_getElem? (i := 199) (by decide +kernel)⟩
theorem lw_p10 : lw_okq (⟨"NotedHouse", "isThere", "(I)Z"⟩, 7) := ⟨⟨by decide +kernel, by decide +kernel⟩, List.mem_of_getElem? (i := 13) (by decide +kernel), List.mem_of_getElem? (i := 206) (by decide +kernel), List.mem_of_getElem? (i := 207) (by decide +kernel)⟩
theorem lw_p11 : lw_okq (⟨"NotedHouse$House", "changeSeats", "(II)V"⟩, 10) := ⟨⟨by decide +kernel, by decide +kernel⟩, List.mem_of_getElem? (i := 21) (by decide +kernel), List.mem_of_getElem? (i := 255) (by decide +kernel), List.mem_of_getElem? (i := 256) (by decide +kernel)⟩
theorem lw_p12 : lw_okq (⟨"NotedHouse$House", "goOn", "(I)V"⟩, 10) := ⟨⟨by decide +kernel, by decide +kernel⟩, List.mem_of_getElem? (i := 21) (by decide +kernel), List.mem_of_getElem? (i := 267) (by decide +kernel), List.mem_of_getElem? (i := 268) (by decide +kernel)⟩
theorem lw_p13 : lw_okq (⟨"NotedHouse$House", "go", "()V"⟩, 10) := ⟨⟨by decide +kernel, by decide +kernel⟩, List.mem_of_getElem? (i := 21) (by decide +kernel), List.mem_of_getElem? (i := 271) (by decide +kernel), List.mem_of_getElem? (i := 272) (by decide +kernel)⟩
theorem lw_p14 : lw_okq (⟨"NotedHouse$House", "endNight", "()V"⟩, 10) := ⟨⟨by decide +kernel, by decide +kernel⟩, List.mem_of_getElem? (i := 21) (by decide +kernel), List.mem_of_getElem? (i := 282) (by decide +kernel), List.mem_of_getElem? (i := 283) (by decide +kernel)⟩
theorem lw_p15 : lw_okq (⟨"NotedHouse", "startTrial", "()V"⟩, 7) := ⟨⟨by decide +kernel, by decide +kernel⟩, List.mem_of_getElem? (i := 13) (by decide +kernel), List.mem_of_getElem? (i := 291) (by decide +kernel), List.mem_of_getElem? (i := 292) (by decide +kernel)⟩
def lw_privs_1 : List (MethodName × Nat) := [(⟨"NotedHouse", "finding", "(I)I"⟩, 7), (⟨"NotedHouse$House", "allNotes", "()I"⟩, 10), (⟨"NotedHouse$House", "whoDoAsAsked", "()I"⟩, 10), (⟨"NotedHouse$House", "deedOf", "(I)I"⟩, 10), (⟨"NotedHouse$House", "cougherDeed", "(I)I"⟩, 10), (⟨"NotedHouse$House", "neighbourDid", "(II)Z"⟩, 10), (⟨"NotedHouse$House", "sitterDeed", "(I)I"⟩, 10), (⟨"NotedHouse$House", "weeperDeed", "(I)I"⟩, 10), (⟨"NotedHouse$House", "allFresh", "()I"⟩, 10), (⟨"NotedHouse$House", "seat", "(II)I"⟩, 10), (⟨"NotedHouse", "isThere", "(I)Z"⟩, 7), (⟨"NotedHouse$House", "changeSeats", "(II)V"⟩, 10), (⟨"NotedHouse$House", "goOn", "(I)V"⟩, 10), (⟨"NotedHouse$House", "go", "()V"⟩, 10), (⟨"NotedHouse$House", "endNight", "()V"⟩, 10), (⟨"NotedHouse", "startTrial", "()V"⟩, 7)]
theorem lw_r1 : ∀ q ∈ lw_privs_1, lw_okq q := List.forall_mem_cons.mpr ⟨lw_p0, List.forall_mem_cons.mpr ⟨lw_p1, List.forall_mem_cons.mpr ⟨lw_p2, List.forall_mem_cons.mpr ⟨lw_p3, List.forall_mem_cons.mpr ⟨lw_p4, List.forall_mem_cons.mpr ⟨lw_p5, List.forall_mem_cons.mpr ⟨lw_p6, List.forall_mem_cons.mpr ⟨lw_p7, List.forall_mem_cons.mpr ⟨lw_p8, List.forall_mem_cons.mpr ⟨lw_p9, List.forall_mem_cons.mpr ⟨lw_p10, List.forall_mem_cons.mpr ⟨lw_p11, List.forall_mem_cons.mpr ⟨lw_p12, List.forall_mem_cons.mpr ⟨lw_p13, List.forall_mem_cons.mpr ⟨lw_p14, List.forall_mem_cons.mpr ⟨lw_p15, fun _ h => absurd h List.not_mem_nil⟩⟩⟩⟩⟩⟩⟩⟩⟩⟩⟩⟩⟩⟩⟩⟩
theorem lw_p16 : lw_okq (⟨"NotedHouse$House", "become", "(LNotedHouse$House;)V"⟩, 10) := ⟨⟨by decide +kernel, by decide +kernel⟩, List.mem_of_getElem? (i := 21) (by decide +kernel), List.mem_of_getElem? (i := 295) (by decide +kernel), List.mem_of_getElem? (i := 296) (by decide +kernel)⟩
theorem lw_p17 : lw_okq (⟨"NotedHouse$House", "allNotesOn", "(I)I"⟩, 10) := ⟨⟨by decide +kernel, by decide +kernel⟩, List.mem_of_getElem? (i := 21) (by decide +kernel), List.mem_of_getElem? (i := 310) (by decide +kernel), List.mem_of_getElem? (i := 311) (by decide +kernel)⟩
theorem lw_p18 : lw_okq (⟨"NotedHouse$House", "howManyDo", "(I)I"⟩, 10) := ⟨⟨by decide +kernel, by decide +kernel⟩, List.mem_of_getElem? (i := 21) (by decide +kernel), List.mem_of_getElem? (i := 320) (by decide +kernel), List.mem_of_getElem? (i := 321) (by decide +kernel)⟩
theorem lw_p19 : lw_okq (⟨"NotedHouse$House", "tenseAll", "(I)V"⟩, 10) := ⟨⟨by decide +kernel, by decide +kernel⟩, List.mem_of_getElem? (i := 21) (by decide +kernel), List.mem_of_getElem? (i := 360) (by decide +kernel), List.mem_of_getElem? (i := 361) (by decide +kernel)⟩
theorem lw_p20 : lw_okq (⟨"NotedHouse$Text", "add", "(B)V"⟩, 6) := ⟨⟨by decide +kernel, by decide +kernel⟩, List.mem_of_getElem? (i := 72) (by decide +kernel), List.mem_of_getElem? (i := 372) (by decide +kernel), List.mem_of_getElem? (i := 373) (by decide +kernel)⟩
theorem lw_p21 : lw_okq (⟨"NotedHouse$Text", "tellTo", "(LNotedHouse$House;)I"⟩, 6) := ⟨⟨by decide +kernel, by decide +kernel⟩, List.mem_of_getElem? (i := 72) (by decide +kernel), List.mem_of_getElem? (i := 384) (by decide +kernel), List.mem_of_getElem? (i := 385) (by decide +kernel)⟩
theorem lw_p22 : lw_okq (⟨"NotedHouse$Text", "take", "()V"⟩, 6) := ⟨⟨by decide +kernel, by decide +kernel⟩, List.mem_of_getElem? (i := 72) (by decide +kernel), List.mem_of_getElem? (i := 388) (by decide +kernel), List.mem_of_getElem? (i := 389) (by decide +kernel)⟩
theorem lw_p23 : lw_okq (⟨"NotedHouse$Text", "takeWord", "()V"⟩, 6) := ⟨⟨by decide +kernel, by decide +kernel⟩, List.mem_of_getElem? (i := 72) (by decide +kernel), List.mem_of_getElem? (i := 395) (by decide +kernel), List.mem_of_getElem? (i := 396) (by decide +kernel)⟩
theorem lw_p24 : lw_okq (⟨"NotedHouse$Text", "takeNumber", "()V"⟩, 6) := ⟨⟨by decide +kernel, by decide +kernel⟩, List.mem_of_getElem? (i := 72) (by decide +kernel), List.mem_of_getElem? (i := 402) (by decide +kernel), List.mem_of_getElem? (i := 403) (by decide +kernel)⟩
theorem lw_p25 : lw_okq (⟨"NotedHouse$Text", "takeItem", "(LNotedHouse$House;)Z"⟩, 6) := ⟨⟨by decide +kernel, by decide +kernel⟩, List.mem_of_getElem? (i := 72) (by decide +kernel), List.mem_of_getElem? (i := 407) (by decide +kernel), List.mem_of_getElem? (i := 408) (by decide +kernel)⟩
theorem lw_p26 : lw_okq (⟨"NotedHouse$Text", "isWord", "(Ljava/lang/String;)Z"⟩, 6) := ⟨⟨by decide +kernel, by decide +kernel⟩, List.mem_of_getElem? (i := 72) (by decide +kernel), List.mem_of_getElem? (i := 412) (by decide +kernel), List.mem_of_getElem? (i := 413) (by decide +kernel)⟩
theorem lw_p27 : lw_okq (⟨"NotedHouse$Text", "takeCue", "(LNotedHouse$House;)Z"⟩, 6) := ⟨⟨by decide +kernel, by decide +kernel⟩, List.mem_of_getElem? (i := 72) (by decide +kernel), List.mem_of_getElem? (i := 464) (by decide +kernel), List.mem_of_getElem? (i := 465) (by decide +kernel)⟩
theorem lw_p28 : lw_okq (⟨"NotedHouse$Text", "isNumberTo", "(I)Z"⟩, 6) := ⟨⟨by decide +kernel, by decide +kernel⟩, List.mem_of_getElem? (i := 72) (by decide +kernel), List.mem_of_getElem? (i := 468) (by decide +kernel), List.mem_of_getElem? (i := 469) (by decide +kernel)⟩
theorem lw_p29 : lw_okq (⟨"NotedHouse$Text", "cueNamed", "()I"⟩, 6) := ⟨⟨by decide +kernel, by decide +kernel⟩, List.mem_of_getElem? (i := 72) (by decide +kernel), List.mem_of_getElem? (i := 472) (by decide +kernel), List.mem_of_getElem? (i := 473) (by decide +kernel)⟩
theorem lw_p30 : lw_okq (⟨"NotedHouse$Text", "takeTense", "(LNotedHouse$House;)Z"⟩, 6) := ⟨⟨by decide +kernel, by decide +kernel⟩, List.mem_of_getElem? (i := 72) (by decide +kernel), List.mem_of_getElem? (i := 485) (by decide +kernel), List.mem_of_getElem? (i := 486) (by decide +kernel)⟩
theorem lw_p31 : lw_okq (⟨"NotedHouse$Text", "takeSwap", "(LNotedHouse$House;)Z"⟩, 6) := ⟨⟨by decide +kernel, by decide +kernel⟩, List.mem_of_getElem? (i := 72) (by decide +kernel), List.mem_of_getElem? (i := 490) (by decide +kernel), List.mem_of_getElem? (i := 491) (by decide +kernel)⟩
def lw_privs_2 : List (MethodName × Nat) := [(⟨"NotedHouse$House", "become", "(LNotedHouse$House;)V"⟩, 10), (⟨"NotedHouse$House", "allNotesOn", "(I)I"⟩, 10), (⟨"NotedHouse$House", "howManyDo", "(I)I"⟩, 10), (⟨"NotedHouse$House", "tenseAll", "(I)V"⟩, 10), (⟨"NotedHouse$Text", "add", "(B)V"⟩, 6), (⟨"NotedHouse$Text", "tellTo", "(LNotedHouse$House;)I"⟩, 6), (⟨"NotedHouse$Text", "take", "()V"⟩, 6), (⟨"NotedHouse$Text", "takeWord", "()V"⟩, 6), (⟨"NotedHouse$Text", "takeNumber", "()V"⟩, 6), (⟨"NotedHouse$Text", "takeItem", "(LNotedHouse$House;)Z"⟩, 6), (⟨"NotedHouse$Text", "isWord", "(Ljava/lang/String;)Z"⟩, 6), (⟨"NotedHouse$Text", "takeCue", "(LNotedHouse$House;)Z"⟩, 6), (⟨"NotedHouse$Text", "isNumberTo", "(I)Z"⟩, 6), (⟨"NotedHouse$Text", "cueNamed", "()I"⟩, 6), (⟨"NotedHouse$Text", "takeTense", "(LNotedHouse$House;)Z"⟩, 6), (⟨"NotedHouse$Text", "takeSwap", "(LNotedHouse$House;)Z"⟩, 6)]
theorem lw_r2 : ∀ q ∈ lw_privs_2, lw_okq q := List.forall_mem_cons.mpr ⟨lw_p16, List.forall_mem_cons.mpr ⟨lw_p17, List.forall_mem_cons.mpr ⟨lw_p18, List.forall_mem_cons.mpr ⟨lw_p19, List.forall_mem_cons.mpr ⟨lw_p20, List.forall_mem_cons.mpr ⟨lw_p21, List.forall_mem_cons.mpr ⟨lw_p22, List.forall_mem_cons.mpr ⟨lw_p23, List.forall_mem_cons.mpr ⟨lw_p24, List.forall_mem_cons.mpr ⟨lw_p25, List.forall_mem_cons.mpr ⟨lw_p26, List.forall_mem_cons.mpr ⟨lw_p27, List.forall_mem_cons.mpr ⟨lw_p28, List.forall_mem_cons.mpr ⟨lw_p29, List.forall_mem_cons.mpr ⟨lw_p30, List.forall_mem_cons.mpr ⟨lw_p31, fun _ h => absurd h List.not_mem_nil⟩⟩⟩⟩⟩⟩⟩⟩⟩⟩⟩⟩⟩⟩⟩⟩
theorem lw_p32 : lw_okq (⟨"NotedHouse$Text", "takePerson", "(LNotedHouse$House;)Z"⟩, 6) := ⟨⟨by decide +kernel, by decide +kernel⟩, List.mem_of_getElem? (i := 72) (by decide +kernel), List.mem_of_getElem? (i := 495) (by decide +kernel), List.mem_of_getElem? (i := 496) (by decide +kernel)⟩
theorem lw_p33 : lw_okq (⟨"NotedHouse$Text", "kindNamed", "()I"⟩, 6) := ⟨⟨by decide +kernel, by decide +kernel⟩, List.mem_of_getElem? (i := 72) (by decide +kernel), List.mem_of_getElem? (i := 499) (by decide +kernel), List.mem_of_getElem? (i := 500) (by decide +kernel)⟩
theorem lw_p34 : lw_okq (⟨"NotedHouse$Sheet", "layOut", "(II)V"⟩, 3) := ⟨⟨by decide +kernel, by decide +kernel⟩, List.mem_of_getElem? (i := 100) (by decide +kernel), List.mem_of_getElem? (i := 522) (by decide +kernel), List.mem_of_getElem? (i := 523) (by decide +kernel)⟩
theorem lw_p35 : lw_okq (⟨"NotedHouse$Sheet", "isMissing", "()Z"⟩, 3) := ⟨⟨by decide +kernel, by decide +kernel⟩, List.mem_of_getElem? (i := 100) (by decide +kernel), List.mem_of_getElem? (i := 530) (by decide +kernel), List.mem_of_getElem? (i := 531) (by decide +kernel)⟩
theorem lw_p36 : lw_okq (⟨"NotedHouse$Sheet", "put", "(IJ)V"⟩, 3) := ⟨⟨by decide +kernel, by decide +kernel⟩, List.mem_of_getElem? (i := 100) (by decide +kernel), List.mem_of_getElem? (i := 535) (by decide +kernel), List.mem_of_getElem? (i := 536) (by decide +kernel)⟩
theorem lw_p37 : lw_okq (⟨"NotedHouse$Sheet", "has", "(II)Z"⟩, 3) := ⟨⟨by decide +kernel, by decide +kernel⟩, List.mem_of_getElem? (i := 100) (by decide +kernel), List.mem_of_getElem? (i := 543) (by decide +kernel), List.mem_of_getElem? (i := 544) (by decide +kernel)⟩
theorem lw_p38 : lw_okq (⟨"NotedHouse", "refusalOf", "(II)I"⟩, 7) := ⟨⟨by decide +kernel, by decide +kernel⟩, List.mem_of_getElem? (i := 13) (by decide +kernel), List.mem_of_getElem? (i := 557) (by decide +kernel), List.mem_of_getElem? (i := 558) (by decide +kernel)⟩
theorem lw_p39 : lw_okq (⟨"NotedHouse", "trialDoesAs", "(LNotedHouse$Sheet;I)Z"⟩, 7) := ⟨⟨by decide +kernel, by decide +kernel⟩, List.mem_of_getElem? (i := 13) (by decide +kernel), List.mem_of_getElem? (i := 565) (by decide +kernel), List.mem_of_getElem? (i := 566) (by decide +kernel)⟩
theorem lw_p40 : lw_okq (⟨"NotedHouse$House", "allTense", "()I"⟩, 10) := ⟨⟨by decide +kernel, by decide +kernel⟩, List.mem_of_getElem? (i := 21) (by decide +kernel), List.mem_of_getElem? (i := 585) (by decide +kernel), List.mem_of_getElem? (i := 586) (by decide +kernel)⟩
theorem lw_p41 : lw_okq (⟨"NotedHouseModel", "finds", "(I)I"⟩, 18) := ⟨⟨by decide +kernel, by decide +kernel⟩, List.mem_of_getElem? (i := 593) (by decide +kernel), List.mem_of_getElem? (i := 667) (by decide +kernel), List.mem_of_getElem? (i := 668) (by decide +kernel)⟩
theorem lw_p42 : lw_okq (⟨"NotedHouseModel", "becomes", "(II)I"⟩, 18) := ⟨⟨by decide +kernel, by decide +kernel⟩, List.mem_of_getElem? (i := 593) (by decide +kernel), List.mem_of_getElem? (i := 672) (by decide +kernel), List.mem_of_getElem? (i := 673) (by decide +kernel)⟩
theorem lw_p43 : lw_okq (⟨"NotedHouseModel", "sumOf", "(I)I"⟩, 18) := ⟨⟨by decide +kernel, by decide +kernel⟩, List.mem_of_getElem? (i := 593) (by decide +kernel), List.mem_of_getElem? (i := 680) (by decide +kernel), List.mem_of_getElem? (i := 681) (by decide +kernel)⟩
theorem lw_p44 : lw_okq (⟨"NotedHouseModel", "its", "(II)I"⟩, 18) := ⟨⟨by decide +kernel, by decide +kernel⟩, List.mem_of_getElem? (i := 593) (by decide +kernel), List.mem_of_getElem? (i := 684) (by decide +kernel), List.mem_of_getElem? (i := 685) (by decide +kernel)⟩
theorem lw_p45 : lw_okq (⟨"NotedHouseModel", "doers", "(IZ)I"⟩, 18) := ⟨⟨by decide +kernel, by decide +kernel⟩, List.mem_of_getElem? (i := 593) (by decide +kernel), List.mem_of_getElem? (i := 688) (by decide +kernel), List.mem_of_getElem? (i := 689) (by decide +kernel)⟩
theorem lw_p46 : lw_okq (⟨"NotedHouseModel", "doesNow", "(I)I"⟩, 18) := ⟨⟨by decide +kernel, by decide +kernel⟩, List.mem_of_getElem? (i := 593) (by decide +kernel), List.mem_of_getElem? (i := 692) (by decide +kernel), List.mem_of_getElem? (i := 693) (by decide +kernel)⟩
theorem lw_p47 : lw_okq (⟨"NotedHouseModel", "isBeside", "(II)Z"⟩, 18) := ⟨⟨by decide +kernel, by decide +kernel⟩, List.mem_of_getElem? (i := 593) (by decide +kernel), List.mem_of_getElem? (i := 696) (by decide +kernel), List.mem_of_getElem? (i := 697) (by decide +kernel)⟩
def lw_privs_3 : List (MethodName × Nat) := [(⟨"NotedHouse$Text", "takePerson", "(LNotedHouse$House;)Z"⟩, 6), (⟨"NotedHouse$Text", "kindNamed", "()I"⟩, 6), (⟨"NotedHouse$Sheet", "layOut", "(II)V"⟩, 3), (⟨"NotedHouse$Sheet", "isMissing", "()Z"⟩, 3), (⟨"NotedHouse$Sheet", "put", "(IJ)V"⟩, 3), (⟨"NotedHouse$Sheet", "has", "(II)Z"⟩, 3), (⟨"NotedHouse", "refusalOf", "(II)I"⟩, 7), (⟨"NotedHouse", "trialDoesAs", "(LNotedHouse$Sheet;I)Z"⟩, 7), (⟨"NotedHouse$House", "allTense", "()I"⟩, 10), (⟨"NotedHouseModel", "finds", "(I)I"⟩, 18), (⟨"NotedHouseModel", "becomes", "(II)I"⟩, 18), (⟨"NotedHouseModel", "sumOf", "(I)I"⟩, 18), (⟨"NotedHouseModel", "its", "(II)I"⟩, 18), (⟨"NotedHouseModel", "doers", "(IZ)I"⟩, 18), (⟨"NotedHouseModel", "doesNow", "(I)I"⟩, 18), (⟨"NotedHouseModel", "isBeside", "(II)Z"⟩, 18)]
theorem lw_r3 : ∀ q ∈ lw_privs_3, lw_okq q := List.forall_mem_cons.mpr ⟨lw_p32, List.forall_mem_cons.mpr ⟨lw_p33, List.forall_mem_cons.mpr ⟨lw_p34, List.forall_mem_cons.mpr ⟨lw_p35, List.forall_mem_cons.mpr ⟨lw_p36, List.forall_mem_cons.mpr ⟨lw_p37, List.forall_mem_cons.mpr ⟨lw_p38, List.forall_mem_cons.mpr ⟨lw_p39, List.forall_mem_cons.mpr ⟨lw_p40, List.forall_mem_cons.mpr ⟨lw_p41, List.forall_mem_cons.mpr ⟨lw_p42, List.forall_mem_cons.mpr ⟨lw_p43, List.forall_mem_cons.mpr ⟨lw_p44, List.forall_mem_cons.mpr ⟨lw_p45, List.forall_mem_cons.mpr ⟨lw_p46, List.forall_mem_cons.mpr ⟨lw_p47, fun _ h => absurd h List.not_mem_nil⟩⟩⟩⟩⟩⟩⟩⟩⟩⟩⟩⟩⟩⟩⟩⟩
theorem lw_p48 : lw_okq (⟨"NotedHouseModel", "isPerson", "(I)Z"⟩, 18) := ⟨⟨by decide +kernel, by decide +kernel⟩, List.mem_of_getElem? (i := 593) (by decide +kernel), List.mem_of_getElem? (i := 700) (by decide +kernel), List.mem_of_getElem? (i := 701) (by decide +kernel)⟩
theorem lw_p49 : lw_okq (⟨"NotedHouseModel", "comesIn", "(I)I"⟩, 18) := ⟨⟨by decide +kernel, by decide +kernel⟩, List.mem_of_getElem? (i := 593) (by decide +kernel), List.mem_of_getElem? (i := 709) (by decide +kernel), List.mem_of_getElem? (i := 710) (by decide +kernel)⟩
theorem lw_p50 : lw_okq (⟨"NotedHouseModel", "sets", "(III)V"⟩, 18) := ⟨⟨by decide +kernel, by decide +kernel⟩, List.mem_of_getElem? (i := 593) (by decide +kernel), List.mem_of_getElem? (i := 713) (by decide +kernel), List.mem_of_getElem? (i := 714) (by decide +kernel)⟩
theorem lw_p51 : lw_okq (⟨"NotedHouseModel", "stales", "(I)I"⟩, 18) := ⟨⟨by decide +kernel, by decide +kernel⟩, List.mem_of_getElem? (i := 593) (by decide +kernel), List.mem_of_getElem? (i := 721) (by decide +kernel), List.mem_of_getElem? (i := 722) (by decide +kernel)⟩
theorem lw_p52 : lw_okq (⟨"NotedHouseModel", "scoresFor", "(III)I"⟩, 18) := ⟨⟨by decide +kernel, by decide +kernel⟩, List.mem_of_getElem? (i := 593) (by decide +kernel), List.mem_of_getElem? (i := 732) (by decide +kernel), List.mem_of_getElem? (i := 733) (by decide +kernel)⟩
theorem lw_p53 : lw_okq (⟨"NotedHouseModel", "swaps", "(II)V"⟩, 18) := ⟨⟨by decide +kernel, by decide +kernel⟩, List.mem_of_getElem? (i := 593) (by decide +kernel), List.mem_of_getElem? (i := 758) (by decide +kernel), List.mem_of_getElem? (i := 759) (by decide +kernel)⟩
theorem lw_p54 : lw_okq (⟨"NotedHouseModel", "momentsGo", "(I)V"⟩, 18) := ⟨⟨by decide +kernel, by decide +kernel⟩, List.mem_of_getElem? (i := 593) (by decide +kernel), List.mem_of_getElem? (i := 767) (by decide +kernel), List.mem_of_getElem? (i := 768) (by decide +kernel)⟩
theorem lw_p55 : lw_okq (⟨"NotedHouseModel", "momentGoes", "()V"⟩, 18) := ⟨⟨by decide +kernel, by decide +kernel⟩, List.mem_of_getElem? (i := 593) (by decide +kernel), List.mem_of_getElem? (i := 771) (by decide +kernel), List.mem_of_getElem? (i := 772) (by decide +kernel)⟩
theorem lw_p56 : lw_okq (⟨"NotedHouseModel", "whereNote", "(I)I"⟩, 18) := ⟨⟨by decide +kernel, by decide +kernel⟩, List.mem_of_getElem? (i := 593) (by decide +kernel), List.mem_of_getElem? (i := 786) (by decide +kernel), List.mem_of_getElem? (i := 787) (by decide +kernel)⟩
theorem lw_p57 : lw_okq (⟨"NotedHouseModel", "behind", "(II)I"⟩, 18) := ⟨⟨by decide +kernel, by decide +kernel⟩, List.mem_of_getElem? (i := 593) (by decide +kernel), List.mem_of_getElem? (i := 790) (by decide +kernel), List.mem_of_getElem? (i := 791) (by decide +kernel)⟩
theorem lw_p58 : lw_okq (⟨"NotedHouseModel", "houseBehind", "(I)I"⟩, 18) := ⟨⟨by decide +kernel, by decide +kernel⟩, List.mem_of_getElem? (i := 593) (by decide +kernel), List.mem_of_getElem? (i := 802) (by decide +kernel), List.mem_of_getElem? (i := 803) (by decide +kernel)⟩
theorem lw_p59 : lw_okq (⟨"NotedHouseModel", "items", "()I"⟩, 18) := ⟨⟨by decide +kernel, by decide +kernel⟩, List.mem_of_getElem? (i := 593) (by decide +kernel), List.mem_of_getElem? (i := 865) (by decide +kernel), List.mem_of_getElem? (i := 866) (by decide +kernel)⟩
theorem lw_p60 : lw_okq (⟨"NotedHouseModel", "next", "()V"⟩, 18) := ⟨⟨by decide +kernel, by decide +kernel⟩, List.mem_of_getElem? (i := 593) (by decide +kernel), List.mem_of_getElem? (i := 869) (by decide +kernel), List.mem_of_getElem? (i := 870) (by decide +kernel)⟩
theorem lw_p61 : lw_okq (⟨"NotedHouseModel", "byteAt", "(I)I"⟩, 18) := ⟨⟨by decide +kernel, by decide +kernel⟩, List.mem_of_getElem? (i := 593) (by decide +kernel), List.mem_of_getElem? (i := 873) (by decide +kernel), List.mem_of_getElem? (i := 874) (by decide +kernel)⟩
theorem lw_p62 : lw_okq (⟨"NotedHouseModel", "item", "()V"⟩, 18) := ⟨⟨by decide +kernel, by decide +kernel⟩, List.mem_of_getElem? (i := 593) (by decide +kernel), List.mem_of_getElem? (i := 888) (by decide +kernel), List.mem_of_getElem? (i := 889) (by decide +kernel)⟩
theorem lw_p63 : lw_okq (⟨"NotedHouseModel", "kindHere", "()I"⟩, 18) := ⟨⟨by decide +kernel, by decide +kernel⟩, List.mem_of_getElem? (i := 593) (by decide +kernel), List.mem_of_getElem? (i := 892) (by decide +kernel), List.mem_of_getElem? (i := 893) (by decide +kernel)⟩
def lw_privs_4 : List (MethodName × Nat) := [(⟨"NotedHouseModel", "isPerson", "(I)Z"⟩, 18), (⟨"NotedHouseModel", "comesIn", "(I)I"⟩, 18), (⟨"NotedHouseModel", "sets", "(III)V"⟩, 18), (⟨"NotedHouseModel", "stales", "(I)I"⟩, 18), (⟨"NotedHouseModel", "scoresFor", "(III)I"⟩, 18), (⟨"NotedHouseModel", "swaps", "(II)V"⟩, 18), (⟨"NotedHouseModel", "momentsGo", "(I)V"⟩, 18), (⟨"NotedHouseModel", "momentGoes", "()V"⟩, 18), (⟨"NotedHouseModel", "whereNote", "(I)I"⟩, 18), (⟨"NotedHouseModel", "behind", "(II)I"⟩, 18), (⟨"NotedHouseModel", "houseBehind", "(I)I"⟩, 18), (⟨"NotedHouseModel", "items", "()I"⟩, 18), (⟨"NotedHouseModel", "next", "()V"⟩, 18), (⟨"NotedHouseModel", "byteAt", "(I)I"⟩, 18), (⟨"NotedHouseModel", "item", "()V"⟩, 18), (⟨"NotedHouseModel", "kindHere", "()I"⟩, 18)]
theorem lw_r4 : ∀ q ∈ lw_privs_4, lw_okq q := List.forall_mem_cons.mpr ⟨lw_p48, List.forall_mem_cons.mpr ⟨lw_p49, List.forall_mem_cons.mpr ⟨lw_p50, List.forall_mem_cons.mpr ⟨lw_p51, List.forall_mem_cons.mpr ⟨lw_p52, List.forall_mem_cons.mpr ⟨lw_p53, List.forall_mem_cons.mpr ⟨lw_p54, List.forall_mem_cons.mpr ⟨lw_p55, List.forall_mem_cons.mpr ⟨lw_p56, List.forall_mem_cons.mpr ⟨lw_p57, List.forall_mem_cons.mpr ⟨lw_p58, List.forall_mem_cons.mpr ⟨lw_p59, List.forall_mem_cons.mpr ⟨lw_p60, List.forall_mem_cons.mpr ⟨lw_p61, List.forall_mem_cons.mpr ⟨lw_p62, List.forall_mem_cons.mpr ⟨lw_p63, fun _ h => absurd h List.not_mem_nil⟩⟩⟩⟩⟩⟩⟩⟩⟩⟩⟩⟩⟩⟩⟩⟩
theorem lw_p64 : lw_okq (⟨"NotedHouseModel", "isWord", "(J)Z"⟩, 18) := ⟨⟨by decide +kernel, by decide +kernel⟩, List.mem_of_getElem? (i := 593) (by decide +kernel), List.mem_of_getElem? (i := 897) (by decide +kernel), List.mem_of_getElem? (i := 898) (by decide +kernel)⟩
theorem lw_p65 : lw_okq (⟨"NotedHouseModel", "personHere", "(I)V"⟩, 18) := ⟨⟨by decide +kernel, by decide +kernel⟩, List.mem_of_getElem? (i := 593) (by decide +kernel), List.mem_of_getElem? (i := 906) (by decide +kernel), List.mem_of_getElem? (i := 907) (by decide +kernel)⟩
theorem lw_p66 : lw_okq (⟨"NotedHouseModel", "wrongHere", "()V"⟩, 18) := ⟨⟨by decide +kernel, by decide +kernel⟩, List.mem_of_getElem? (i := 593) (by decide +kernel), List.mem_of_getElem? (i := 910) (by decide +kernel), List.mem_of_getElem? (i := 911) (by decide +kernel)⟩
theorem lw_p67 : lw_okq (⟨"NotedHouseModel", "numberHere", "(II)I"⟩, 18) := ⟨⟨by decide +kernel, by decide +kernel⟩, List.mem_of_getElem? (i := 593) (by decide +kernel), List.mem_of_getElem? (i := 915) (by decide +kernel), List.mem_of_getElem? (i := 916) (by decide +kernel)⟩
theorem lw_p68 : lw_okq (⟨"NotedHouseModel", "cueItem", "()V"⟩, 18) := ⟨⟨by decide +kernel, by decide +kernel⟩, List.mem_of_getElem? (i := 593) (by decide +kernel), List.mem_of_getElem? (i := 920) (by decide +kernel), List.mem_of_getElem? (i := 921) (by decide +kernel)⟩
theorem lw_p69 : lw_okq (⟨"NotedHouseModel", "cueHere", "()I"⟩, 18) := ⟨⟨by decide +kernel, by decide +kernel⟩, List.mem_of_getElem? (i := 593) (by decide +kernel), List.mem_of_getElem? (i := 924) (by decide +kernel), List.mem_of_getElem? (i := 925) (by decide +kernel)⟩
theorem lw_p70 : lw_okq (⟨"NotedHouseModel", "tenseItem", "()V"⟩, 18) := ⟨⟨by decide +kernel, by decide +kernel⟩, List.mem_of_getElem? (i := 593) (by decide +kernel), List.mem_of_getElem? (i := 934) (by decide +kernel), List.mem_of_getElem? (i := 935) (by decide +kernel)⟩
theorem lw_p71 : lw_okq (⟨"NotedHouseModel", "swapItem", "()V"⟩, 18) := ⟨⟨by decide +kernel, by decide +kernel⟩, List.mem_of_getElem? (i := 593) (by decide +kernel), List.mem_of_getElem? (i := 939) (by decide +kernel), List.mem_of_getElem? (i := 940) (by decide +kernel)⟩
theorem lw_p72 : lw_okq (⟨"NotedHouseModel", "whyNone", "(I)I"⟩, 18) := ⟨⟨by decide +kernel, by decide +kernel⟩, List.mem_of_getElem? (i := 593) (by decide +kernel), List.mem_of_getElem? (i := 955) (by decide +kernel), List.mem_of_getElem? (i := 956) (by decide +kernel)⟩
theorem lw_p73 : lw_okq (⟨"NotedHouseModel", "puts", "(IIJ)V"⟩, 18) := ⟨⟨by decide +kernel, by decide +kernel⟩, List.mem_of_getElem? (i := 593) (by decide +kernel), List.mem_of_getElem? (i := 959) (by decide +kernel), List.mem_of_getElem? (i := 960) (by decide +kernel)⟩
def lw_privs_5 : List (MethodName × Nat) := [(⟨"NotedHouseModel", "isWord", "(J)Z"⟩, 18), (⟨"NotedHouseModel", "personHere", "(I)V"⟩, 18), (⟨"NotedHouseModel", "wrongHere", "()V"⟩, 18), (⟨"NotedHouseModel", "numberHere", "(II)I"⟩, 18), (⟨"NotedHouseModel", "cueItem", "()V"⟩, 18), (⟨"NotedHouseModel", "cueHere", "()I"⟩, 18), (⟨"NotedHouseModel", "tenseItem", "()V"⟩, 18), (⟨"NotedHouseModel", "swapItem", "()V"⟩, 18), (⟨"NotedHouseModel", "whyNone", "(I)I"⟩, 18), (⟨"NotedHouseModel", "puts", "(IIJ)V"⟩, 18)]
theorem lw_r5 : ∀ q ∈ lw_privs_5, lw_okq q := List.forall_mem_cons.mpr ⟨lw_p64, List.forall_mem_cons.mpr ⟨lw_p65, List.forall_mem_cons.mpr ⟨lw_p66, List.forall_mem_cons.mpr ⟨lw_p67, List.forall_mem_cons.mpr ⟨lw_p68, List.forall_mem_cons.mpr ⟨lw_p69, List.forall_mem_cons.mpr ⟨lw_p70, List.forall_mem_cons.mpr ⟨lw_p71, List.forall_mem_cons.mpr ⟨lw_p72, List.forall_mem_cons.mpr ⟨lw_p73, fun _ h => absurd h List.not_mem_nil⟩⟩⟩⟩⟩⟩⟩⟩⟩⟩
def lw_privs : List (MethodName × Nat) := lw_privs_1 ++ (lw_privs_2 ++ (lw_privs_3 ++ (lw_privs_4 ++ (lw_privs_5))))
def lw_tbl : List Cond := k2_sels lw_privs ++ tables_1
theorem lw_privs_ok : ∀ q ∈ lw_privs, lw_okq q := by
  show ∀ q ∈ lw_privs_1 ++ (lw_privs_2 ++ (lw_privs_3 ++ (lw_privs_4 ++ (lw_privs_5)))), lw_okq q
  exact List.forall_mem_append.mpr ⟨lw_r1, List.forall_mem_append.mpr ⟨lw_r2, List.forall_mem_append.mpr ⟨lw_r3, List.forall_mem_append.mpr ⟨lw_r4, lw_r5⟩⟩⟩⟩
end
section
def RX0 : String := "NotedHouse$House"
def TX0 : u_T := fun k => match k with
  | 0 => ("NotedHouse$House", "night", "I", false)
  | 1 => ("NotedHouse$House", "moment", "I", false)
  | 2 => ("NotedHouse$House", "people", "I", false)
  | 3 => ("NotedHouse$House", "cues", "[I", true)
  | 4 => ("NotedHouse$House", "tenses", "[I", true)
  | 5 => ("NotedHouse$House", "kinds", "[I", true)
  | 6 => ("NotedHouse$House", "freshes", "[I", true)
  | 7 => ("NotedHouse$House", "notes", "[I", true)
  | 8 => ("NotedHouse$House", "dids", "[I", true)
  | _ => ("NotedHouse$House", "deeds", "[I", true)
def tyX0 : Nat → FieldType := fun k => match k with
  | 0 => .int
  | 1 => .int
  | 2 => .int
  | 3 => .array .int
  | 4 => .array .int
  | 5 => .array .int
  | 6 => .array .int
  | 7 => .array .int
  | 8 => .array .int
  | _ => .array .int
abbrev wsX00 : List Cond := u_ws RX0 TX0 10
theorem nmX0 : ∀ a, a < 10 → ∀ b, b < 10 → a ≠ b → (TX0 a).2.1 ≠ (TX0 b).2.1 := by decide +kernel
theorem tyX0_ok : ∀ k, k < 10 → parseFieldDescriptor (TX0 k).2.2.1 = some (tyX0 k) := by decide +kernel
abbrev cX0_init : ByteArray := prog_2_method_1_code
def yX0_init : MethodName := ⟨RX0, "<init>", "()V"⟩
abbrev cX0_become : ByteArray := prog_2_method_2_code
def yX0_become : MethodName := ⟨RX0, "become", "(LNotedHouse$House;)V"⟩
abbrev cX0_seat : ByteArray := prog_2_method_3_code
def yX0_seat : MethodName := ⟨RX0, "seat", "(II)I"⟩
abbrev cX0_changeSeats : ByteArray := prog_2_method_4_code
def yX0_changeSeats : MethodName := ⟨RX0, "changeSeats", "(II)V"⟩
abbrev cX0_exchange : ByteArray := prog_2_method_5_code
def yX0_exchange : MethodName := ⟨RX0, "exchange", "([III)V"⟩
abbrev cX0_tenseAll : ByteArray := prog_2_method_6_code
def yX0_tenseAll : MethodName := ⟨RX0, "tenseAll", "(I)V"⟩
abbrev cX0_allNotes : ByteArray := prog_2_method_7_code
def yX0_allNotes : MethodName := ⟨RX0, "allNotes", "()I"⟩
abbrev cX0_allFresh : ByteArray := prog_2_method_8_code
def yX0_allFresh : MethodName := ⟨RX0, "allFresh", "()I"⟩
abbrev cX0_allTense : ByteArray := prog_2_method_9_code
def yX0_allTense : MethodName := ⟨RX0, "allTense", "()I"⟩
abbrev cX0_sum : ByteArray := prog_2_method_10_code
def yX0_sum : MethodName := ⟨RX0, "sum", "([II)I"⟩
abbrev cX0_whoDoAsAsked : ByteArray := prog_2_method_11_code
def yX0_whoDoAsAsked : MethodName := ⟨RX0, "whoDoAsAsked", "()I"⟩
abbrev cX0_howManyDo : ByteArray := prog_2_method_12_code
def yX0_howManyDo : MethodName := ⟨RX0, "howManyDo", "(I)I"⟩
abbrev cX0_deedOf : ByteArray := prog_2_method_13_code
def yX0_deedOf : MethodName := ⟨RX0, "deedOf", "(I)I"⟩
abbrev cX0_sitterDeed : ByteArray := prog_2_method_14_code
def yX0_sitterDeed : MethodName := ⟨RX0, "sitterDeed", "(I)I"⟩
abbrev cX0_cougherDeed : ByteArray := prog_2_method_15_code
def yX0_cougherDeed : MethodName := ⟨RX0, "cougherDeed", "(I)I"⟩
abbrev cX0_weeperDeed : ByteArray := prog_2_method_16_code
def yX0_weeperDeed : MethodName := ⟨RX0, "weeperDeed", "(I)I"⟩
abbrev cX0_neighbourDid : ByteArray := prog_2_method_17_code
def yX0_neighbourDid : MethodName := ⟨RX0, "neighbourDid", "(II)Z"⟩
abbrev cX0_allNotesOn : ByteArray := prog_2_method_18_code
def yX0_allNotesOn : MethodName := ⟨RX0, "allNotesOn", "(I)I"⟩
abbrev cX0_goOn : ByteArray := prog_2_method_19_code
def yX0_goOn : MethodName := ⟨RX0, "goOn", "(I)V"⟩
abbrev cX0_go : ByteArray := prog_2_method_20_code
def yX0_go : MethodName := ⟨RX0, "go", "()V"⟩
abbrev cX0_endNight : ByteArray := prog_2_method_21_code
def yX0_endNight : MethodName := ⟨RX0, "endNight", "()V"⟩
def RX1 : String := "NotedHouse$Sheet"
def TX1 : u_T := fun k => match k with
  | 0 => ("NotedHouse$Sheet", "row", "[J", true)
  | 1 => ("NotedHouse$Sheet", "bits", "I", false)
  | _ => ("NotedHouse$Sheet", "size", "I", false)
def tyX1 : Nat → FieldType := fun k => match k with
  | 0 => .array .long
  | 1 => .int
  | _ => .int
abbrev wsX10 : List Cond := u_ws RX1 TX1 3
theorem nmX1 : ∀ a, a < 3 → ∀ b, b < 3 → a ≠ b → (TX1 a).2.1 ≠ (TX1 b).2.1 := by decide +kernel
theorem tyX1_ok : ∀ k, k < 3 → parseFieldDescriptor (TX1 k).2.2.1 = some (tyX1 k) := by decide +kernel
abbrev cX1_init : ByteArray := prog_3_method_1_code
def yX1_init : MethodName := ⟨RX1, "<init>", "()V"⟩
abbrev cX1_isMissing : ByteArray := prog_3_method_2_code
def yX1_isMissing : MethodName := ⟨RX1, "isMissing", "()Z"⟩
abbrev cX1_layOut : ByteArray := prog_3_method_3_code
def yX1_layOut : MethodName := ⟨RX1, "layOut", "(II)V"⟩
abbrev cX1_put : ByteArray := prog_3_method_4_code
def yX1_put : MethodName := ⟨RX1, "put", "(IJ)V"⟩
abbrev cX1_has : ByteArray := prog_3_method_5_code
def yX1_has : MethodName := ⟨RX1, "has", "(II)Z"⟩
def RX2 : String := "NotedHouse$Text"
def TX2 : u_T := fun k => match k with
  | 0 => ("NotedHouse$Text", "bytes", "[B", true)
  | 1 => ("NotedHouse$Text", "length", "I", false)
  | 2 => ("NotedHouse$Text", "first", "I", false)
  | 3 => ("NotedHouse$Text", "behind", "I", false)
  | 4 => ("NotedHouse$Text", "token", "I", false)
  | _ => ("NotedHouse$Text", "number", "I", false)
def tyX2 : Nat → FieldType := fun k => match k with
  | 0 => .array .byte
  | 1 => .int
  | 2 => .int
  | 3 => .int
  | 4 => .int
  | _ => .int
abbrev wsX20 : List Cond := u_ws RX2 TX2 6
theorem nmX2 : ∀ a, a < 6 → ∀ b, b < 6 → a ≠ b → (TX2 a).2.1 ≠ (TX2 b).2.1 := by decide +kernel
theorem tyX2_ok : ∀ k, k < 6 → parseFieldDescriptor (TX2 k).2.2.1 = some (tyX2 k) := by decide +kernel
abbrev cX2_init : ByteArray := prog_4_method_1_code
def yX2_init : MethodName := ⟨RX2, "<init>", "()V"⟩
abbrev cX2_add : ByteArray := prog_4_method_2_code
def yX2_add : MethodName := ⟨RX2, "add", "(B)V"⟩
abbrev cX2_tellTo : ByteArray := prog_4_method_3_code
def yX2_tellTo : MethodName := ⟨RX2, "tellTo", "(LNotedHouse$House;)I"⟩
abbrev cX2_takeItem : ByteArray := prog_4_method_4_code
def yX2_takeItem : MethodName := ⟨RX2, "takeItem", "(LNotedHouse$House;)Z"⟩
abbrev cX2_takePerson : ByteArray := prog_4_method_5_code
def yX2_takePerson : MethodName := ⟨RX2, "takePerson", "(LNotedHouse$House;)Z"⟩
abbrev cX2_takeCue : ByteArray := prog_4_method_6_code
def yX2_takeCue : MethodName := ⟨RX2, "takeCue", "(LNotedHouse$House;)Z"⟩
abbrev cX2_takeTense : ByteArray := prog_4_method_7_code
def yX2_takeTense : MethodName := ⟨RX2, "takeTense", "(LNotedHouse$House;)Z"⟩
abbrev cX2_takeSwap : ByteArray := prog_4_method_8_code
def yX2_takeSwap : MethodName := ⟨RX2, "takeSwap", "(LNotedHouse$House;)Z"⟩
abbrev cX2_kindNamed : ByteArray := prog_4_method_9_code
def yX2_kindNamed : MethodName := ⟨RX2, "kindNamed", "()I"⟩
abbrev cX2_cueNamed : ByteArray := prog_4_method_10_code
def yX2_cueNamed : MethodName := ⟨RX2, "cueNamed", "()I"⟩
abbrev cX2_nameOfKind : ByteArray := prog_4_method_11_code
def yX2_nameOfKind : MethodName := ⟨RX2, "nameOfKind", "(I)Ljava/lang/String;"⟩
abbrev cX2_nameOfCue : ByteArray := prog_4_method_12_code
def yX2_nameOfCue : MethodName := ⟨RX2, "nameOfCue", "(I)Ljava/lang/String;"⟩
abbrev cX2_isNumberTo : ByteArray := prog_4_method_13_code
def yX2_isNumberTo : MethodName := ⟨RX2, "isNumberTo", "(I)Z"⟩
abbrev cX2_isWord : ByteArray := prog_4_method_14_code
def yX2_isWord : MethodName := ⟨RX2, "isWord", "(Ljava/lang/String;)Z"⟩
abbrev cX2_take : ByteArray := prog_4_method_15_code
def yX2_take : MethodName := ⟨RX2, "take", "()V"⟩
abbrev cX2_takeWord : ByteArray := prog_4_method_16_code
def yX2_takeWord : MethodName := ⟨RX2, "takeWord", "()V"⟩
abbrev cX2_takeNumber : ByteArray := prog_4_method_17_code
def yX2_takeNumber : MethodName := ⟨RX2, "takeNumber", "()V"⟩
abbrev cX2_isLetter : ByteArray := prog_4_method_18_code
def yX2_isLetter : MethodName := ⟨RX2, "isLetter", "(B)Z"⟩
abbrev cX2_isDigit : ByteArray := prog_4_method_19_code
def yX2_isDigit : MethodName := ⟨RX2, "isDigit", "(B)Z"⟩
def RX3 : String := "NotedHouse"
def TX3 : u_T := fun k => match k with
  | 0 => ("NotedHouse", "house", "LNotedHouse$House;", true)
  | 1 => ("NotedHouse", "trial", "LNotedHouse$House;", true)
  | 2 => ("NotedHouse", "kept", "LNotedHouse$House;", true)
  | 3 => ("NotedHouse", "keeps", "Z", false)
  | 4 => ("NotedHouse", "tape", "LNotedHouse$Text;", true)
  | 5 => ("NotedHouse", "sheets", "[LNotedHouse$Sheet;", true)
  | _ => ("NotedHouse", "found", "[I", true)
def tyX3 : Nat → FieldType := fun k => match k with
  | 0 => .object "NotedHouse$House"
  | 1 => .object "NotedHouse$House"
  | 2 => .object "NotedHouse$House"
  | 3 => .boolean
  | 4 => .object "NotedHouse$Text"
  | 5 => .array (.object "NotedHouse$Sheet")
  | _ => .array .int
abbrev wsX30 : List Cond := u_ws RX3 TX3 7
theorem nmX3 : ∀ a, a < 7 → ∀ b, b < 7 → a ≠ b → (TX3 a).2.1 ≠ (TX3 b).2.1 := by decide +kernel
theorem tyX3_ok : ∀ k, k < 7 → parseFieldDescriptor (TX3 k).2.2.1 = some (tyX3 k) := by decide +kernel
abbrev cX3_init : ByteArray := prog_1_method_1_code
def yX3_init : MethodName := ⟨RX3, "<init>", "()V"⟩
abbrev cX3_play : ByteArray := prog_1_method_2_code
def yX3_play : MethodName := ⟨RX3, "play", "(III)I"⟩
abbrev cX3_now : ByteArray := prog_1_method_3_code
def yX3_now : MethodName := ⟨RX3, "now", "(I)I"⟩
abbrev cX3_person : ByteArray := prog_1_method_4_code
def yX3_person : MethodName := ⟨RX3, "person", "(I)I"⟩
abbrev cX3_of : ByteArray := prog_1_method_5_code
def yX3_of : MethodName := ⟨RX3, "of", "(II)I"⟩
abbrev cX3_scores : ByteArray := prog_1_method_6_code
def yX3_scores : MethodName := ⟨RX3, "scores", "(III)I"⟩
abbrev cX3_set : ByteArray := prog_1_method_7_code
def yX3_set : MethodName := ⟨RX3, "set", "(III)I"⟩
abbrev cX3_turn : ByteArray := prog_1_method_8_code
def yX3_turn : MethodName := ⟨RX3, "turn", "(II)I"⟩
abbrev cX3_as : ByteArray := prog_1_method_9_code
def yX3_as : MethodName := ⟨RX3, "as", "(II)I"⟩
abbrev cX3_swap : ByteArray := prog_1_method_10_code
def yX3_swap : MethodName := ⟨RX3, "swap", "(II)I"⟩
abbrev cX3_moments : ByteArray := prog_1_method_11_code
def yX3_moments : MethodName := ⟨RX3, "moments", "(I)I"⟩
abbrev cX3_note : ByteArray := prog_1_method_12_code
def yX3_note : MethodName := ⟨RX3, "note", "(II)I"⟩
abbrev cX3_on : ByteArray := prog_1_method_13_code
def yX3_on : MethodName := ⟨RX3, "on", "(III)I"⟩
abbrev cX3_house : ByteArray := prog_1_method_14_code
def yX3_house : MethodName := ⟨RX3, "house", "(I)I"⟩
abbrev cX3_heard : ByteArray := prog_1_method_15_code
def yX3_heard : MethodName := ⟨RX3, "heard", "(II)I"⟩
abbrev cX3_does : ByteArray := prog_1_method_16_code
def yX3_does : MethodName := ⟨RX3, "does", "(II)I"⟩
abbrev cX3_comes : ByteArray := prog_1_method_17_code
def yX3_comes : MethodName := ⟨RX3, "comes", "(II)I"⟩
abbrev cX3_place : ByteArray := prog_1_method_18_code
def yX3_place : MethodName := ⟨RX3, "place", "(II)I"⟩
abbrev cX3_kind : ByteArray := prog_1_method_19_code
def yX3_kind : MethodName := ⟨RX3, "kind", "(II)I"⟩
abbrev cX3_fresh : ByteArray := prog_1_method_20_code
def yX3_fresh : MethodName := ⟨RX3, "fresh", "(III)I"⟩
abbrev cX3_cue : ByteArray := prog_1_method_21_code
def yX3_cue : MethodName := ⟨RX3, "cue", "(I)I"⟩
abbrev cX3_doze : ByteArray := prog_1_method_22_code
def yX3_doze : MethodName := ⟨RX3, "doze", "(I)I"⟩
abbrev cX3_tense : ByteArray := prog_1_method_23_code
def yX3_tense : MethodName := ⟨RX3, "tense", "(II)I"⟩
abbrev cX3_best : ByteArray := prog_1_method_24_code
def yX3_best : MethodName := ⟨RX3, "best", "(I)I"⟩
abbrev cX3_feed : ByteArray := prog_1_method_25_code
def yX3_feed : MethodName := ⟨RX3, "feed", "(II)I"⟩
abbrev cX3_wipe : ByteArray := prog_1_method_26_code
def yX3_wipe : MethodName := ⟨RX3, "wipe", "()I"⟩
abbrev cX3_evening : ByteArray := prog_1_method_27_code
def yX3_evening : MethodName := ⟨RX3, "evening", "()I"⟩
abbrev cX3_sheet : ByteArray := prog_1_method_28_code
def yX3_sheet : MethodName := ⟨RX3, "sheet", "(III)I"⟩
abbrev cX3_write : ByteArray := prog_1_method_29_code
def yX3_write : MethodName := ⟨RX3, "write", "(IIJ)J"⟩
abbrev cX3_copy : ByteArray := prog_1_method_30_code
def yX3_copy : MethodName := ⟨RX3, "copy", "(IIIII)I"⟩
abbrev cX3_lays : ByteArray := prog_1_method_31_code
def yX3_lays : MethodName := ⟨RX3, "lays", "(I)I"⟩
abbrev cX3_book : ByteArray := prog_1_method_32_code
def yX3_book : MethodName := ⟨RX3, "book", "(II)I"⟩
abbrev cX3_read : ByteArray := prog_1_method_33_code
def yX3_read : MethodName := ⟨RX3, "read", "(II)I"⟩
abbrev cX3_image : ByteArray := prog_1_method_34_code
def yX3_image : MethodName := ⟨RX3, "image", "()I"⟩
abbrev cX3_undo : ByteArray := prog_1_method_35_code
def yX3_undo : MethodName := ⟨RX3, "undo", "()I"⟩
abbrev cX3_tear : ByteArray := prog_1_method_36_code
def yX3_tear : MethodName := ⟨RX3, "tear", "()I"⟩
abbrev cX3_count : ByteArray := prog_1_method_37_code
def yX3_count : MethodName := ⟨RX3, "count", "(I)I"⟩
abbrev cX3_status : ByteArray := prog_1_method_38_code
def yX3_status : MethodName := ⟨RX3, "status", "(I)I"⟩
abbrev cX3_finding : ByteArray := prog_1_method_39_code
def yX3_finding : MethodName := ⟨RX3, "finding", "(I)I"⟩
abbrev cX3_startTrial : ByteArray := prog_1_method_40_code
def yX3_startTrial : MethodName := ⟨RX3, "startTrial", "()V"⟩
abbrev cX3_isThere : ByteArray := prog_1_method_41_code
def yX3_isThere : MethodName := ⟨RX3, "isThere", "(I)Z"⟩
abbrev cX3_isSheet : ByteArray := prog_1_method_42_code
def yX3_isSheet : MethodName := ⟨RX3, "isSheet", "(I)Z"⟩
abbrev cX3_refusalOf : ByteArray := prog_1_method_43_code
def yX3_refusalOf : MethodName := ⟨RX3, "refusalOf", "(II)I"⟩
abbrev cX3_trialDoesAs : ByteArray := prog_1_method_44_code
def yX3_trialDoesAs : MethodName := ⟨RX3, "trialDoesAs", "(LNotedHouse$Sheet;I)Z"⟩
abbrev cX3_isIn : ByteArray := prog_1_method_45_code
def yX3_isIn : MethodName := ⟨RX3, "isIn", "(III)Z"⟩
abbrev cX3_held : ByteArray := prog_1_method_46_code
def yX3_held : MethodName := ⟨RX3, "held", "(III)I"⟩
abbrev cX3_isUnder : ByteArray := prog_1_method_47_code
def yX3_isUnder : MethodName := ⟨RX3, "isUnder", "(II)Z"⟩
abbrev cX3_staleness : ByteArray := prog_1_method_48_code
def yX3_staleness : MethodName := ⟨RX3, "staleness", "(I)I"⟩
abbrev cX3_scoreFor : ByteArray := prog_1_method_49_code
def yX3_scoreFor : MethodName := ⟨RX3, "scoreFor", "(III)I"⟩
abbrev cX3_sitterScore : ByteArray := prog_1_method_50_code
def yX3_sitterScore : MethodName := ⟨RX3, "sitterScore", "(II)I"⟩
abbrev cX3_cougherScore : ByteArray := prog_1_method_51_code
def yX3_cougherScore : MethodName := ⟨RX3, "cougherScore", "(II)I"⟩
abbrev cX3_weeperScore : ByteArray := prog_1_method_52_code
def yX3_weeperScore : MethodName := ⟨RX3, "weeperScore", "(II)I"⟩
def RX4 : String := "NotedHouseModel"
def TX4 : u_T := fun k => match k with
  | 0 => ("NotedHouseModel", "d", "[I", true)
  | 1 => ("NotedHouseModel", "e", "[I", true)
  | 2 => ("NotedHouseModel", "aside", "[I", true)
  | 3 => ("NotedHouseModel", "kept", "[I", true)
  | 4 => ("NotedHouseModel", "isKept", "Z", false)
  | 5 => ("NotedHouseModel", "found", "[I", true)
  | 6 => ("NotedHouseModel", "tape", "[B", true)
  | 7 => ("NotedHouseModel", "taped", "I", false)
  | 8 => ("NotedHouseModel", "doing", "[I", true)
  | 9 => ("NotedHouseModel", "at", "I", false)
  | 10 => ("NotedHouseModel", "sort", "I", false)
  | 11 => ("NotedHouseModel", "from", "I", false)
  | 12 => ("NotedHouseModel", "value", "J", false)
  | 13 => ("NotedHouseModel", "fault", "I", false)
  | 14 => ("NotedHouseModel", "bitsOf", "[I", true)
  | 15 => ("NotedHouseModel", "sizeOf", "[I", true)
  | 16 => ("NotedHouseModel", "number", "[J", true)
  | _ => ("NotedHouseModel", "passing", "[J", true)
def tyX4 : Nat → FieldType := fun k => match k with
  | 0 => .array .int
  | 1 => .array .int
  | 2 => .array .int
  | 3 => .array .int
  | 4 => .boolean
  | 5 => .array .int
  | 6 => .array .byte
  | 7 => .int
  | 8 => .array .int
  | 9 => .int
  | 10 => .int
  | 11 => .int
  | 12 => .long
  | 13 => .int
  | 14 => .array .int
  | 15 => .array .int
  | 16 => .array .long
  | _ => .array .long
abbrev wsX40 : List Cond := u_ws RX4 TX4 18
theorem nmX4 : ∀ a, a < 18 → ∀ b, b < 18 → a ≠ b → (TX4 a).2.1 ≠ (TX4 b).2.1 := by decide +kernel
theorem tyX4_ok : ∀ k, k < 18 → parseFieldDescriptor (TX4 k).2.2.1 = some (tyX4 k) := by decide +kernel
abbrev cX4_init : ByteArray := prog_6_method_1_code
def yX4_init : MethodName := ⟨RX4, "<init>", "()V"⟩
abbrev cX4_finds : ByteArray := prog_6_method_3_code
def yX4_finds : MethodName := ⟨RX4, "finds", "(I)I"⟩
abbrev cX4_in : ByteArray := prog_6_method_4_code
def yX4_in : MethodName := ⟨RX4, "in", "(JJJ)Z"⟩
abbrev cX4_held : ByteArray := prog_6_method_5_code
def yX4_held : MethodName := ⟨RX4, "held", "(III)I"⟩
abbrev cX4_copies : ByteArray := prog_6_method_6_code
def yX4_copies : MethodName := ⟨RX4, "copies", "([I[I)V"⟩
abbrev cX4_isPerson : ByteArray := prog_6_method_7_code
def yX4_isPerson : MethodName := ⟨RX4, "isPerson", "(I)Z"⟩
abbrev cX4_its : ByteArray := prog_6_method_8_code
def yX4_its : MethodName := ⟨RX4, "its", "(II)I"⟩
abbrev cX4_sets : ByteArray := prog_6_method_9_code
def yX4_sets : MethodName := ⟨RX4, "sets", "(III)V"⟩
abbrev cX4_becomes : ByteArray := prog_6_method_10_code
def yX4_becomes : MethodName := ⟨RX4, "becomes", "(II)I"⟩
abbrev cX4_isBeside : ByteArray := prog_6_method_11_code
def yX4_isBeside : MethodName := ⟨RX4, "isBeside", "(II)Z"⟩
abbrev cX4_doesNow : ByteArray := prog_6_method_12_code
def yX4_doesNow : MethodName := ⟨RX4, "doesNow", "(I)I"⟩
abbrev cX4_scoresFor : ByteArray := prog_6_method_13_code
def yX4_scoresFor : MethodName := ⟨RX4, "scoresFor", "(III)I"⟩
abbrev cX4_stales : ByteArray := prog_6_method_14_code
def yX4_stales : MethodName := ⟨RX4, "stales", "(I)I"⟩
abbrev cX4_momentGoes : ByteArray := prog_6_method_15_code
def yX4_momentGoes : MethodName := ⟨RX4, "momentGoes", "()V"⟩
abbrev cX4_momentsGo : ByteArray := prog_6_method_16_code
def yX4_momentsGo : MethodName := ⟨RX4, "momentsGo", "(I)V"⟩
abbrev cX4_sumOf : ByteArray := prog_6_method_17_code
def yX4_sumOf : MethodName := ⟨RX4, "sumOf", "(I)I"⟩
abbrev cX4_isMoment : ByteArray := prog_6_method_18_code
def yX4_isMoment : MethodName := ⟨RX4, "isMoment", "(I)Z"⟩
abbrev cX4_isDone : ByteArray := prog_6_method_19_code
def yX4_isDone : MethodName := ⟨RX4, "isDone", "(I)Z"⟩
abbrev cX4_play : ByteArray := prog_6_method_20_code
def yX4_play : MethodName := ⟨RX4, "play", "(III)I"⟩
abbrev cX4_doers : ByteArray := prog_6_method_21_code
def yX4_doers : MethodName := ⟨RX4, "doers", "(IZ)I"⟩
abbrev cX4_now : ByteArray := prog_6_method_22_code
def yX4_now : MethodName := ⟨RX4, "now", "(I)I"⟩
abbrev cX4_comesIn : ByteArray := prog_6_method_23_code
def yX4_comesIn : MethodName := ⟨RX4, "comesIn", "(I)I"⟩
abbrev cX4_person : ByteArray := prog_6_method_24_code
def yX4_person : MethodName := ⟨RX4, "person", "(I)I"⟩
abbrev cX4_of : ByteArray := prog_6_method_25_code
def yX4_of : MethodName := ⟨RX4, "of", "(II)I"⟩
abbrev cX4_scores : ByteArray := prog_6_method_26_code
def yX4_scores : MethodName := ⟨RX4, "scores", "(III)I"⟩
abbrev cX4_set : ByteArray := prog_6_method_27_code
def yX4_set : MethodName := ⟨RX4, "set", "(III)I"⟩
abbrev cX4_turn : ByteArray := prog_6_method_28_code
def yX4_turn : MethodName := ⟨RX4, "turn", "(II)I"⟩
abbrev cX4_as : ByteArray := prog_6_method_29_code
def yX4_as : MethodName := ⟨RX4, "as", "(II)I"⟩
abbrev cX4_swaps : ByteArray := prog_6_method_30_code
def yX4_swaps : MethodName := ⟨RX4, "swaps", "(II)V"⟩
abbrev cX4_swap : ByteArray := prog_6_method_31_code
def yX4_swap : MethodName := ⟨RX4, "swap", "(II)I"⟩
abbrev cX4_moments : ByteArray := prog_6_method_32_code
def yX4_moments : MethodName := ⟨RX4, "moments", "(I)I"⟩
abbrev cX4_behind : ByteArray := prog_6_method_33_code
def yX4_behind : MethodName := ⟨RX4, "behind", "(II)I"⟩
abbrev cX4_houseBehind : ByteArray := prog_6_method_34_code
def yX4_houseBehind : MethodName := ⟨RX4, "houseBehind", "(I)I"⟩
abbrev cX4_isAhead : ByteArray := prog_6_method_35_code
def yX4_isAhead : MethodName := ⟨RX4, "isAhead", "(I)Z"⟩
abbrev cX4_isShort : ByteArray := prog_6_method_36_code
def yX4_isShort : MethodName := ⟨RX4, "isShort", "(I)Z"⟩
abbrev cX4_whereNote : ByteArray := prog_6_method_37_code
def yX4_whereNote : MethodName := ⟨RX4, "whereNote", "(I)I"⟩
abbrev cX4_note : ByteArray := prog_6_method_38_code
def yX4_note : MethodName := ⟨RX4, "note", "(II)I"⟩
abbrev cX4_on : ByteArray := prog_6_method_39_code
def yX4_on : MethodName := ⟨RX4, "on", "(III)I"⟩
abbrev cX4_house : ByteArray := prog_6_method_40_code
def yX4_house : MethodName := ⟨RX4, "house", "(I)I"⟩
abbrev cX4_heard : ByteArray := prog_6_method_41_code
def yX4_heard : MethodName := ⟨RX4, "heard", "(II)I"⟩
abbrev cX4_does : ByteArray := prog_6_method_42_code
def yX4_does : MethodName := ⟨RX4, "does", "(II)I"⟩
abbrev cX4_comes : ByteArray := prog_6_method_43_code
def yX4_comes : MethodName := ⟨RX4, "comes", "(II)I"⟩
abbrev cX4_place : ByteArray := prog_6_method_44_code
def yX4_place : MethodName := ⟨RX4, "place", "(II)I"⟩
abbrev cX4_kind : ByteArray := prog_6_method_45_code
def yX4_kind : MethodName := ⟨RX4, "kind", "(II)I"⟩
abbrev cX4_fresh : ByteArray := prog_6_method_46_code
def yX4_fresh : MethodName := ⟨RX4, "fresh", "(III)I"⟩
abbrev cX4_cue : ByteArray := prog_6_method_47_code
def yX4_cue : MethodName := ⟨RX4, "cue", "(I)I"⟩
abbrev cX4_doze : ByteArray := prog_6_method_48_code
def yX4_doze : MethodName := ⟨RX4, "doze", "(I)I"⟩
abbrev cX4_tense : ByteArray := prog_6_method_49_code
def yX4_tense : MethodName := ⟨RX4, "tense", "(II)I"⟩
abbrev cX4_best : ByteArray := prog_6_method_50_code
def yX4_best : MethodName := ⟨RX4, "best", "(I)I"⟩
abbrev cX4_feed : ByteArray := prog_6_method_51_code
def yX4_feed : MethodName := ⟨RX4, "feed", "(II)I"⟩
abbrev cX4_wipe : ByteArray := prog_6_method_52_code
def yX4_wipe : MethodName := ⟨RX4, "wipe", "()I"⟩
abbrev cX4_letter : ByteArray := prog_6_method_53_code
def yX4_letter : MethodName := ⟨RX4, "letter", "(I)I"⟩
abbrev cX4_isDigit : ByteArray := prog_6_method_54_code
def yX4_isDigit : MethodName := ⟨RX4, "isDigit", "(I)Z"⟩
abbrev cX4_byteAt : ByteArray := prog_6_method_55_code
def yX4_byteAt : MethodName := ⟨RX4, "byteAt", "(I)I"⟩
abbrev cX4_next : ByteArray := prog_6_method_56_code
def yX4_next : MethodName := ⟨RX4, "next", "()V"⟩
abbrev cX4_wrongHere : ByteArray := prog_6_method_57_code
def yX4_wrongHere : MethodName := ⟨RX4, "wrongHere", "()V"⟩
abbrev cX4_isWord : ByteArray := prog_6_method_58_code
def yX4_isWord : MethodName := ⟨RX4, "isWord", "(J)Z"⟩
abbrev cX4_kindHere : ByteArray := prog_6_method_59_code
def yX4_kindHere : MethodName := ⟨RX4, "kindHere", "()I"⟩
abbrev cX4_cueHere : ByteArray := prog_6_method_60_code
def yX4_cueHere : MethodName := ⟨RX4, "cueHere", "()I"⟩
abbrev cX4_numberHere : ByteArray := prog_6_method_61_code
def yX4_numberHere : MethodName := ⟨RX4, "numberHere", "(II)I"⟩
abbrev cX4_personHere : ByteArray := prog_6_method_62_code
def yX4_personHere : MethodName := ⟨RX4, "personHere", "(I)V"⟩
abbrev cX4_cueItem : ByteArray := prog_6_method_63_code
def yX4_cueItem : MethodName := ⟨RX4, "cueItem", "()V"⟩
abbrev cX4_tenseItem : ByteArray := prog_6_method_64_code
def yX4_tenseItem : MethodName := ⟨RX4, "tenseItem", "()V"⟩
abbrev cX4_swapItem : ByteArray := prog_6_method_65_code
def yX4_swapItem : MethodName := ⟨RX4, "swapItem", "()V"⟩
abbrev cX4_item : ByteArray := prog_6_method_66_code
def yX4_item : MethodName := ⟨RX4, "item", "()V"⟩
abbrev cX4_items : ByteArray := prog_6_method_67_code
def yX4_items : MethodName := ⟨RX4, "items", "()I"⟩
abbrev cX4_evening : ByteArray := prog_6_method_68_code
def yX4_evening : MethodName := ⟨RX4, "evening", "()I"⟩
abbrev cX4_isSheet : ByteArray := prog_6_method_69_code
def yX4_isSheet : MethodName := ⟨RX4, "isSheet", "(I)Z"⟩
abbrev cX4_sheet : ByteArray := prog_6_method_70_code
def yX4_sheet : MethodName := ⟨RX4, "sheet", "(III)I"⟩
abbrev cX4_whyNone : ByteArray := prog_6_method_71_code
def yX4_whyNone : MethodName := ⟨RX4, "whyNone", "(I)I"⟩
abbrev cX4_puts : ByteArray := prog_6_method_72_code
def yX4_puts : MethodName := ⟨RX4, "puts", "(IIJ)V"⟩
abbrev cX4_write : ByteArray := prog_6_method_73_code
def yX4_write : MethodName := ⟨RX4, "write", "(IIJ)J"⟩
abbrev cX4_copy : ByteArray := prog_6_method_74_code
def yX4_copy : MethodName := ⟨RX4, "copy", "(IIIII)I"⟩
abbrev cX4_lays : ByteArray := prog_6_method_75_code
def yX4_lays : MethodName := ⟨RX4, "lays", "(I)I"⟩
abbrev cX4_book : ByteArray := prog_6_method_76_code
def yX4_book : MethodName := ⟨RX4, "book", "(II)I"⟩
abbrev cX4_read : ByteArray := prog_6_method_77_code
def yX4_read : MethodName := ⟨RX4, "read", "(II)I"⟩
abbrev cX4_image : ByteArray := prog_6_method_78_code
def yX4_image : MethodName := ⟨RX4, "image", "()I"⟩
abbrev cX4_undo : ByteArray := prog_6_method_79_code
def yX4_undo : MethodName := ⟨RX4, "undo", "()I"⟩
abbrev cX4_tear : ByteArray := prog_6_method_80_code
def yX4_tear : MethodName := ⟨RX4, "tear", "()I"⟩
abbrev cX4_count : ByteArray := prog_6_method_81_code
def yX4_count : MethodName := ⟨RX4, "count", "(I)I"⟩
abbrev cX4_status : ByteArray := prog_6_method_82_code
def yX4_status : MethodName := ⟨RX4, "status", "(I)I"⟩
def RJ9 : String := "java/lang/Math"
def TJ9 : u_T := fun k => match k with
  | _ => ("", "", "", false)
def tyJ9 : Nat → FieldType := fun k => match k with
  | _ => .int
abbrev cJ9_max_7cf53 : ByteArray := prog_7_method_65_code
def yJ9_max_7cf53 : MethodName := ⟨RJ9, "max", "(II)I"⟩
abbrev cJ9_min_7cf53 : ByteArray := prog_7_method_69_code
def yJ9_min_7cf53 : MethodName := ⟨RJ9, "min", "(II)I"⟩
def RJ0 : String := "java/lang/String"
def TJ0 : u_T := fun k => match k with
  | _ => ("", "", "", false)
def tyJ0 : Nat → FieldType := fun k => match k with
  | _ => .int
abbrev cJ0_length_8abf5 : ByteArray := prog_8_method_54_code
def yJ0_length_8abf5 : MethodName := ⟨RJ0, "length", "()I"⟩
abbrev cJ0_charAt_5068e : ByteArray := prog_8_method_56_code
def yJ0_charAt_5068e : MethodName := ⟨RJ0, "charAt", "(I)C"⟩
abbrev cJ0_coder_7d493 : ByteArray := prog_8_method_152_code
def yJ0_coder_7d493 : MethodName := ⟨RJ0, "coder", "()B"⟩
abbrev cJ0_isLatin1_aae02 : ByteArray := prog_8_method_154_code
def yJ0_isLatin1_aae02 : MethodName := ⟨RJ0, "isLatin1", "()Z"⟩
abbrev cJ0_checkIndex_df160 : ByteArray := prog_8_method_155_code
def yJ0_checkIndex_df160 : MethodName := ⟨RJ0, "checkIndex", "(II)V"⟩
def RJ1 : String := "java/lang/StringLatin1"
def TJ1 : u_T := fun k => match k with
  | _ => ("", "", "", false)
def tyJ1 : Nat → FieldType := fun k => match k with
  | _ => .int
abbrev cJ1_charAt_3b067 : ByteArray := prog_9_method_2_code
def yJ1_charAt_3b067 : MethodName := ⟨RJ1, "charAt", "([BI)C"⟩
def RJ2 : String := "java/lang/StringUTF16"
def TJ2 : u_T := fun k => match k with
  | _ => ("", "", "", false)
def tyJ2 : Nat → FieldType := fun k => match k with
  | _ => .int
abbrev cJ2_getChar_3b067 : ByteArray := prog_10_method_5_code
def yJ2_getChar_3b067 : MethodName := ⟨RJ2, "getChar", "([BI)C"⟩
abbrev cJ2_length_9d52b : ByteArray := prog_10_method_6_code
def yJ2_length_9d52b : MethodName := ⟨RJ2, "length", "([B)I"⟩
abbrev cJ2_charAt_3b067 : ByteArray := prog_10_method_83_code
def yJ2_charAt_3b067 : MethodName := ⟨RJ2, "charAt", "([BI)C"⟩
abbrev cJ2_checkIndex_2214a : ByteArray := prog_10_method_91_code
def yJ2_checkIndex_2214a : MethodName := ⟨RJ2, "checkIndex", "(I[B)V"⟩
def RJ10 : String := "java/lang/System"
def TJ10 : u_T := fun k => match k with
  | _ => ("", "", "", false)
def tyJ10 : Nat → FieldType := fun k => match k with
  | _ => .int
def RJ3 : String := "jdk/internal/util/Preconditions"
def TJ3 : u_T := fun k => match k with
  | _ => ("", "", "", false)
def tyJ3 : Nat → FieldType := fun k => match k with
  | _ => .int
abbrev cJ3_checkIndex_8e157 : ByteArray := prog_12_method_11_code
def yJ3_checkIndex_8e157 : MethodName := ⟨RJ3, "checkIndex", "(IILjava/util/function/BiFunction;)I"⟩
def RL : String := "NotedHouseLaw"
abbrev cL_law : ByteArray := code
def yL_law : MethodName := ⟨RL, "law", "([I)Z"⟩
abbrev vwCl : List vw_C := [(RX0, TX0, 10), (RX1, TX1, 3), (RX2, TX2, 6), (RX3, TX3, 7), (RX4, TX4, 18)]
end
section
theorem dX0_init_0 : decode cX0_init 0 = .ok (.aload_n 0, 1) := by decide +kernel
theorem dX0_init_1 : decode cX0_init 1 = .ok (.invokespecial 3, 3) := by decide +kernel
theorem dX0_init_4 : decode cX0_init 4 = .ok (.aload_n 0, 1) := by decide +kernel
theorem dX0_init_5 : decode cX0_init 5 = .ok (.iconst 0, 1) := by decide +kernel
theorem dX0_init_6 : decode cX0_init 6 = .ok (.putfield 9, 3) := by decide +kernel
theorem dX0_init_9 : decode cX0_init 9 = .ok (.aload_n 0, 1) := by decide +kernel
theorem dX0_init_10 : decode cX0_init 10 = .ok (.iconst 0, 1) := by decide +kernel
theorem dX0_init_11 : decode cX0_init 11 = .ok (.putfield 15, 3) := by decide +kernel
theorem dX0_init_14 : decode cX0_init 14 = .ok (.aload_n 0, 1) := by decide +kernel
theorem dX0_init_15 : decode cX0_init 15 = .ok (.iconst 0, 1) := by decide +kernel
theorem dX0_init_16 : decode cX0_init 16 = .ok (.putfield 18, 3) := by decide +kernel
theorem dX0_init_19 : decode cX0_init 19 = .ok (.aload_n 0, 1) := by decide +kernel
theorem dX0_init_20 : decode cX0_init 20 = .ok (.bipush 16, 2) := by decide +kernel
theorem dX0_init_22 : decode cX0_init 22 = .ok (.newarray .int, 2) := by decide +kernel
theorem dX0_init_24 : decode cX0_init 24 = .ok (.putfield 21, 3) := by decide +kernel
theorem dX0_init_27 : decode cX0_init 27 = .ok (.aload_n 0, 1) := by decide +kernel
theorem dX0_init_28 : decode cX0_init 28 = .ok (.bipush 16, 2) := by decide +kernel
theorem dX0_init_30 : decode cX0_init 30 = .ok (.newarray .int, 2) := by decide +kernel
theorem dX0_init_32 : decode cX0_init 32 = .ok (.putfield 25, 3) := by decide +kernel
theorem dX0_init_35 : decode cX0_init 35 = .ok (.aload_n 0, 1) := by decide +kernel
theorem dX0_init_36 : decode cX0_init 36 = .ok (.bipush 8, 2) := by decide +kernel
theorem dX0_init_38 : decode cX0_init 38 = .ok (.newarray .int, 2) := by decide +kernel
theorem dX0_init_40 : decode cX0_init 40 = .ok (.putfield 28, 3) := by decide +kernel
theorem dX0_init_43 : decode cX0_init 43 = .ok (.aload_n 0, 1) := by decide +kernel
theorem dX0_init_44 : decode cX0_init 44 = .ok (.bipush 8, 2) := by decide +kernel
theorem dX0_init_46 : decode cX0_init 46 = .ok (.newarray .int, 2) := by decide +kernel
theorem dX0_init_48 : decode cX0_init 48 = .ok (.putfield 31, 3) := by decide +kernel
theorem dX0_init_51 : decode cX0_init 51 = .ok (.aload_n 0, 1) := by decide +kernel
theorem dX0_init_52 : decode cX0_init 52 = .ok (.bipush 8, 2) := by decide +kernel
theorem dX0_init_54 : decode cX0_init 54 = .ok (.newarray .int, 2) := by decide +kernel
theorem dX0_init_56 : decode cX0_init 56 = .ok (.putfield 34, 3) := by decide +kernel
theorem dX0_init_59 : decode cX0_init 59 = .ok (.aload_n 0, 1) := by decide +kernel
theorem dX0_init_60 : decode cX0_init 60 = .ok (.bipush 8, 2) := by decide +kernel
theorem dX0_init_62 : decode cX0_init 62 = .ok (.newarray .int, 2) := by decide +kernel
theorem dX0_init_64 : decode cX0_init 64 = .ok (.putfield 37, 3) := by decide +kernel
theorem dX0_init_67 : decode cX0_init 67 = .ok (.aload_n 0, 1) := by decide +kernel
theorem dX0_init_68 : decode cX0_init 68 = .ok (.bipush 8, 2) := by decide +kernel
theorem dX0_init_70 : decode cX0_init 70 = .ok (.newarray .int, 2) := by decide +kernel
theorem dX0_init_72 : decode cX0_init 72 = .ok (.putfield 40, 3) := by decide +kernel
theorem dX0_init_75 : decode cX0_init 75 = .ok (.iconst 0, 1) := by decide +kernel
theorem dX0_init_76 : decode cX0_init 76 = .ok (.istore_n 1, 1) := by decide +kernel
theorem dX0_init_77 : decode cX0_init 77 = .ok (.iload_n 1, 1) := by decide +kernel
theorem dX0_init_78 : decode cX0_init 78 = .ok (.bipush 16, 2) := by decide +kernel
theorem dX0_init_80 : decode cX0_init 80 = .ok (.if_icmp .ge 25, 3) := by decide +kernel
theorem dX0_init_83 : decode cX0_init 83 = .ok (.aload_n 0, 1) := by decide +kernel
theorem dX0_init_84 : decode cX0_init 84 = .ok (.getfield 21, 3) := by decide +kernel
theorem dX0_init_87 : decode cX0_init 87 = .ok (.iload_n 1, 1) := by decide +kernel
theorem dX0_init_88 : decode cX0_init 88 = .ok (.iload_n 1, 1) := by decide +kernel
theorem dX0_init_89 : decode cX0_init 89 = .ok (.iconst 5, 1) := by decide +kernel
theorem dX0_init_90 : decode cX0_init 90 = .ok (.irem, 1) := by decide +kernel
theorem dX0_init_91 : decode cX0_init 91 = .ok (.iastore, 1) := by decide +kernel
theorem dX0_init_92 : decode cX0_init 92 = .ok (.aload_n 0, 1) := by decide +kernel
theorem dX0_init_93 : decode cX0_init 93 = .ok (.getfield 25, 3) := by decide +kernel
theorem dX0_init_96 : decode cX0_init 96 = .ok (.iload_n 1, 1) := by decide +kernel
theorem dX0_init_97 : decode cX0_init 97 = .ok (.iconst 5, 1) := by decide +kernel
theorem dX0_init_98 : decode cX0_init 98 = .ok (.iastore, 1) := by decide +kernel
theorem dX0_init_99 : decode cX0_init 99 = .ok (.iinc 1 1, 3) := by decide +kernel
theorem dX0_init_102 : decode cX0_init 102 = .ok (.goto (-25), 3) := by decide +kernel
theorem dX0_init_105 : decode cX0_init 105 = .ok (.return_, 1) := by decide +kernel
theorem dX0_become_0 : decode cX0_become 0 = .ok (.aload_n 0, 1) := by decide +kernel
theorem dX0_become_1 : decode cX0_become 1 = .ok (.aload_n 1, 1) := by decide +kernel
theorem dX0_become_2 : decode cX0_become 2 = .ok (.getfield 9, 3) := by decide +kernel
theorem dX0_become_5 : decode cX0_become 5 = .ok (.putfield 9, 3) := by decide +kernel
theorem dX0_become_8 : decode cX0_become 8 = .ok (.aload_n 0, 1) := by decide +kernel
theorem dX0_become_9 : decode cX0_become 9 = .ok (.aload_n 1, 1) := by decide +kernel
theorem dX0_become_10 : decode cX0_become 10 = .ok (.getfield 15, 3) := by decide +kernel
theorem dX0_become_13 : decode cX0_become 13 = .ok (.putfield 15, 3) := by decide +kernel
theorem dX0_become_16 : decode cX0_become 16 = .ok (.aload_n 0, 1) := by decide +kernel
theorem dX0_become_17 : decode cX0_become 17 = .ok (.aload_n 1, 1) := by decide +kernel
theorem dX0_become_18 : decode cX0_become 18 = .ok (.getfield 18, 3) := by decide +kernel
theorem dX0_become_21 : decode cX0_become 21 = .ok (.putfield 18, 3) := by decide +kernel
theorem dX0_become_24 : decode cX0_become 24 = .ok (.aload_n 1, 1) := by decide +kernel
theorem dX0_become_25 : decode cX0_become 25 = .ok (.getfield 21, 3) := by decide +kernel
theorem dX0_become_28 : decode cX0_become 28 = .ok (.iconst 0, 1) := by decide +kernel
theorem dX0_become_29 : decode cX0_become 29 = .ok (.aload_n 0, 1) := by decide +kernel
theorem dX0_become_30 : decode cX0_become 30 = .ok (.getfield 21, 3) := by decide +kernel
theorem dX0_become_33 : decode cX0_become 33 = .ok (.iconst 0, 1) := by decide +kernel
theorem dX0_become_34 : decode cX0_become 34 = .ok (.bipush 16, 2) := by decide +kernel
theorem dX0_become_36 : decode cX0_become 36 = .ok (.invokestatic 43, 3) := by decide +kernel
theorem dX0_become_39 : decode cX0_become 39 = .ok (.aload_n 1, 1) := by decide +kernel
theorem dX0_become_40 : decode cX0_become 40 = .ok (.getfield 25, 3) := by decide +kernel
theorem dX0_become_43 : decode cX0_become 43 = .ok (.iconst 0, 1) := by decide +kernel
theorem dX0_become_44 : decode cX0_become 44 = .ok (.aload_n 0, 1) := by decide +kernel
theorem dX0_become_45 : decode cX0_become 45 = .ok (.getfield 25, 3) := by decide +kernel
theorem dX0_become_48 : decode cX0_become 48 = .ok (.iconst 0, 1) := by decide +kernel
theorem dX0_become_49 : decode cX0_become 49 = .ok (.bipush 16, 2) := by decide +kernel
theorem dX0_become_51 : decode cX0_become 51 = .ok (.invokestatic 43, 3) := by decide +kernel
theorem dX0_become_54 : decode cX0_become 54 = .ok (.aload_n 1, 1) := by decide +kernel
theorem dX0_become_55 : decode cX0_become 55 = .ok (.getfield 28, 3) := by decide +kernel
theorem dX0_become_58 : decode cX0_become 58 = .ok (.iconst 0, 1) := by decide +kernel
theorem dX0_become_59 : decode cX0_become 59 = .ok (.aload_n 0, 1) := by decide +kernel
theorem dX0_become_60 : decode cX0_become 60 = .ok (.getfield 28, 3) := by decide +kernel
theorem dX0_become_63 : decode cX0_become 63 = .ok (.iconst 0, 1) := by decide +kernel
theorem dX0_become_64 : decode cX0_become 64 = .ok (.aload_n 0, 1) := by decide +kernel
theorem dX0_become_65 : decode cX0_become 65 = .ok (.getfield 18, 3) := by decide +kernel
theorem dX0_become_68 : decode cX0_become 68 = .ok (.invokestatic 43, 3) := by decide +kernel
theorem dX0_become_71 : decode cX0_become 71 = .ok (.aload_n 1, 1) := by decide +kernel
theorem dX0_become_72 : decode cX0_become 72 = .ok (.getfield 31, 3) := by decide +kernel
theorem dX0_become_75 : decode cX0_become 75 = .ok (.iconst 0, 1) := by decide +kernel
theorem dX0_become_76 : decode cX0_become 76 = .ok (.aload_n 0, 1) := by decide +kernel
theorem dX0_become_77 : decode cX0_become 77 = .ok (.getfield 31, 3) := by decide +kernel
theorem dX0_become_80 : decode cX0_become 80 = .ok (.iconst 0, 1) := by decide +kernel
theorem dX0_become_81 : decode cX0_become 81 = .ok (.aload_n 0, 1) := by decide +kernel
theorem dX0_become_82 : decode cX0_become 82 = .ok (.getfield 18, 3) := by decide +kernel
theorem dX0_become_85 : decode cX0_become 85 = .ok (.invokestatic 43, 3) := by decide +kernel
theorem dX0_become_88 : decode cX0_become 88 = .ok (.aload_n 1, 1) := by decide +kernel
theorem dX0_become_89 : decode cX0_become 89 = .ok (.getfield 34, 3) := by decide +kernel
theorem dX0_become_92 : decode cX0_become 92 = .ok (.iconst 0, 1) := by decide +kernel
theorem dX0_become_93 : decode cX0_become 93 = .ok (.aload_n 0, 1) := by decide +kernel
theorem dX0_become_94 : decode cX0_become 94 = .ok (.getfield 34, 3) := by decide +kernel
theorem dX0_become_97 : decode cX0_become 97 = .ok (.iconst 0, 1) := by decide +kernel
theorem dX0_become_98 : decode cX0_become 98 = .ok (.aload_n 0, 1) := by decide +kernel
theorem dX0_become_99 : decode cX0_become 99 = .ok (.getfield 18, 3) := by decide +kernel
theorem dX0_become_102 : decode cX0_become 102 = .ok (.invokestatic 43, 3) := by decide +kernel
theorem dX0_become_105 : decode cX0_become 105 = .ok (.aload_n 1, 1) := by decide +kernel
theorem dX0_become_106 : decode cX0_become 106 = .ok (.getfield 37, 3) := by decide +kernel
theorem dX0_become_109 : decode cX0_become 109 = .ok (.iconst 0, 1) := by decide +kernel
theorem dX0_become_110 : decode cX0_become 110 = .ok (.aload_n 0, 1) := by decide +kernel
theorem dX0_become_111 : decode cX0_become 111 = .ok (.getfield 37, 3) := by decide +kernel
theorem dX0_become_114 : decode cX0_become 114 = .ok (.iconst 0, 1) := by decide +kernel
theorem dX0_become_115 : decode cX0_become 115 = .ok (.aload_n 0, 1) := by decide +kernel
theorem dX0_become_116 : decode cX0_become 116 = .ok (.getfield 18, 3) := by decide +kernel
theorem dX0_become_119 : decode cX0_become 119 = .ok (.invokestatic 43, 3) := by decide +kernel
theorem dX0_become_122 : decode cX0_become 122 = .ok (.return_, 1) := by decide +kernel
theorem dX0_seat_0 : decode cX0_seat 0 = .ok (.aload_n 0, 1) := by decide +kernel
theorem dX0_seat_1 : decode cX0_seat 1 = .ok (.getfield 18, 3) := by decide +kernel
theorem dX0_seat_4 : decode cX0_seat 4 = .ok (.istore_n 3, 1) := by decide +kernel
theorem dX0_seat_5 : decode cX0_seat 5 = .ok (.iload_n 3, 1) := by decide +kernel
theorem dX0_seat_6 : decode cX0_seat 6 = .ok (.bipush 8, 2) := by decide +kernel
theorem dX0_seat_8 : decode cX0_seat 8 = .ok (.if_icmp .ge 41, 3) := by decide +kernel
theorem dX0_seat_11 : decode cX0_seat 11 = .ok (.aload_n 0, 1) := by decide +kernel
theorem dX0_seat_12 : decode cX0_seat 12 = .ok (.getfield 28, 3) := by decide +kernel
theorem dX0_seat_15 : decode cX0_seat 15 = .ok (.iload_n 3, 1) := by decide +kernel
theorem dX0_seat_16 : decode cX0_seat 16 = .ok (.iload_n 1, 1) := by decide +kernel
theorem dX0_seat_17 : decode cX0_seat 17 = .ok (.iastore, 1) := by decide +kernel
theorem dX0_seat_18 : decode cX0_seat 18 = .ok (.aload_n 0, 1) := by decide +kernel
theorem dX0_seat_19 : decode cX0_seat 19 = .ok (.getfield 31, 3) := by decide +kernel
theorem dX0_seat_22 : decode cX0_seat 22 = .ok (.iload_n 3, 1) := by decide +kernel
theorem dX0_seat_23 : decode cX0_seat 23 = .ok (.iload_n 2, 1) := by decide +kernel
theorem dX0_seat_24 : decode cX0_seat 24 = .ok (.iastore, 1) := by decide +kernel
theorem dX0_seat_25 : decode cX0_seat 25 = .ok (.aload_n 0, 1) := by decide +kernel
theorem dX0_seat_26 : decode cX0_seat 26 = .ok (.getfield 34, 3) := by decide +kernel
theorem dX0_seat_29 : decode cX0_seat 29 = .ok (.iload_n 3, 1) := by decide +kernel
theorem dX0_seat_30 : decode cX0_seat 30 = .ok (.iconst 0, 1) := by decide +kernel
theorem dX0_seat_31 : decode cX0_seat 31 = .ok (.iastore, 1) := by decide +kernel
theorem dX0_seat_32 : decode cX0_seat 32 = .ok (.aload_n 0, 1) := by decide +kernel
theorem dX0_seat_33 : decode cX0_seat 33 = .ok (.getfield 37, 3) := by decide +kernel
theorem dX0_seat_36 : decode cX0_seat 36 = .ok (.iload_n 3, 1) := by decide +kernel
theorem dX0_seat_37 : decode cX0_seat 37 = .ok (.iconst 0, 1) := by decide +kernel
theorem dX0_seat_38 : decode cX0_seat 38 = .ok (.iastore, 1) := by decide +kernel
theorem dX0_seat_39 : decode cX0_seat 39 = .ok (.aload_n 0, 1) := by decide +kernel
theorem dX0_seat_40 : decode cX0_seat 40 = .ok (.dup, 1) := by decide +kernel
theorem dX0_seat_41 : decode cX0_seat 41 = .ok (.getfield 18, 3) := by decide +kernel
theorem dX0_seat_44 : decode cX0_seat 44 = .ok (.iconst 1, 1) := by decide +kernel
theorem dX0_seat_45 : decode cX0_seat 45 = .ok (.iadd, 1) := by decide +kernel
theorem dX0_seat_46 : decode cX0_seat 46 = .ok (.putfield 18, 3) := by decide +kernel
theorem dX0_seat_49 : decode cX0_seat 49 = .ok (.iload_n 3, 1) := by decide +kernel
theorem dX0_seat_50 : decode cX0_seat 50 = .ok (.ireturn, 1) := by decide +kernel
theorem dX0_changeSeats_0 : decode cX0_changeSeats 0 = .ok (.aload_n 0, 1) := by decide +kernel
theorem dX0_changeSeats_1 : decode cX0_changeSeats 1 = .ok (.getfield 28, 3) := by decide +kernel
theorem dX0_changeSeats_4 : decode cX0_changeSeats 4 = .ok (.iload_n 1, 1) := by decide +kernel
theorem dX0_changeSeats_5 : decode cX0_changeSeats 5 = .ok (.iload_n 2, 1) := by decide +kernel
theorem dX0_changeSeats_6 : decode cX0_changeSeats 6 = .ok (.invokestatic 49, 3) := by decide +kernel
theorem dX0_changeSeats_9 : decode cX0_changeSeats 9 = .ok (.aload_n 0, 1) := by decide +kernel
theorem dX0_changeSeats_10 : decode cX0_changeSeats 10 = .ok (.getfield 31, 3) := by decide +kernel
theorem dX0_changeSeats_13 : decode cX0_changeSeats 13 = .ok (.iload_n 1, 1) := by decide +kernel
theorem dX0_changeSeats_14 : decode cX0_changeSeats 14 = .ok (.iload_n 2, 1) := by decide +kernel
theorem dX0_changeSeats_15 : decode cX0_changeSeats 15 = .ok (.invokestatic 49, 3) := by decide +kernel
theorem dX0_changeSeats_18 : decode cX0_changeSeats 18 = .ok (.aload_n 0, 1) := by decide +kernel
theorem dX0_changeSeats_19 : decode cX0_changeSeats 19 = .ok (.getfield 34, 3) := by decide +kernel
theorem dX0_changeSeats_22 : decode cX0_changeSeats 22 = .ok (.iload_n 1, 1) := by decide +kernel
theorem dX0_changeSeats_23 : decode cX0_changeSeats 23 = .ok (.iload_n 2, 1) := by decide +kernel
theorem dX0_changeSeats_24 : decode cX0_changeSeats 24 = .ok (.invokestatic 49, 3) := by decide +kernel
theorem dX0_changeSeats_27 : decode cX0_changeSeats 27 = .ok (.aload_n 0, 1) := by decide +kernel
theorem dX0_changeSeats_28 : decode cX0_changeSeats 28 = .ok (.getfield 37, 3) := by decide +kernel
theorem dX0_changeSeats_31 : decode cX0_changeSeats 31 = .ok (.iload_n 1, 1) := by decide +kernel
theorem dX0_changeSeats_32 : decode cX0_changeSeats 32 = .ok (.iload_n 2, 1) := by decide +kernel
theorem dX0_changeSeats_33 : decode cX0_changeSeats 33 = .ok (.invokestatic 49, 3) := by decide +kernel
theorem dX0_changeSeats_36 : decode cX0_changeSeats 36 = .ok (.return_, 1) := by decide +kernel
theorem dX0_exchange_0 : decode cX0_exchange 0 = .ok (.aload_n 0, 1) := by decide +kernel
theorem dX0_exchange_1 : decode cX0_exchange 1 = .ok (.iload_n 1, 1) := by decide +kernel
theorem dX0_exchange_2 : decode cX0_exchange 2 = .ok (.iaload, 1) := by decide +kernel
theorem dX0_exchange_3 : decode cX0_exchange 3 = .ok (.istore_n 3, 1) := by decide +kernel
theorem dX0_exchange_4 : decode cX0_exchange 4 = .ok (.aload_n 0, 1) := by decide +kernel
theorem dX0_exchange_5 : decode cX0_exchange 5 = .ok (.iload_n 1, 1) := by decide +kernel
theorem dX0_exchange_6 : decode cX0_exchange 6 = .ok (.aload_n 0, 1) := by decide +kernel
theorem dX0_exchange_7 : decode cX0_exchange 7 = .ok (.iload_n 2, 1) := by decide +kernel
theorem dX0_exchange_8 : decode cX0_exchange 8 = .ok (.iaload, 1) := by decide +kernel
theorem dX0_exchange_9 : decode cX0_exchange 9 = .ok (.iastore, 1) := by decide +kernel
theorem dX0_exchange_10 : decode cX0_exchange 10 = .ok (.aload_n 0, 1) := by decide +kernel
theorem dX0_exchange_11 : decode cX0_exchange 11 = .ok (.iload_n 2, 1) := by decide +kernel
theorem dX0_exchange_12 : decode cX0_exchange 12 = .ok (.iload_n 3, 1) := by decide +kernel
theorem dX0_exchange_13 : decode cX0_exchange 13 = .ok (.iastore, 1) := by decide +kernel
theorem dX0_exchange_14 : decode cX0_exchange 14 = .ok (.return_, 1) := by decide +kernel
theorem dX0_tenseAll_0 : decode cX0_tenseAll 0 = .ok (.iconst 0, 1) := by decide +kernel
theorem dX0_tenseAll_1 : decode cX0_tenseAll 1 = .ok (.istore_n 2, 1) := by decide +kernel
theorem dX0_tenseAll_2 : decode cX0_tenseAll 2 = .ok (.iload_n 2, 1) := by decide +kernel
theorem dX0_tenseAll_3 : decode cX0_tenseAll 3 = .ok (.bipush 16, 2) := by decide +kernel
theorem dX0_tenseAll_5 : decode cX0_tenseAll 5 = .ok (.if_icmp .ge 16, 3) := by decide +kernel
theorem dX0_tenseAll_8 : decode cX0_tenseAll 8 = .ok (.aload_n 0, 1) := by decide +kernel
theorem dX0_tenseAll_9 : decode cX0_tenseAll 9 = .ok (.getfield 25, 3) := by decide +kernel
theorem dX0_tenseAll_12 : decode cX0_tenseAll 12 = .ok (.iload_n 2, 1) := by decide +kernel
theorem dX0_tenseAll_13 : decode cX0_tenseAll 13 = .ok (.iload_n 1, 1) := by decide +kernel
theorem dX0_tenseAll_14 : decode cX0_tenseAll 14 = .ok (.iastore, 1) := by decide +kernel
theorem dX0_tenseAll_15 : decode cX0_tenseAll 15 = .ok (.iinc 2 1, 3) := by decide +kernel
theorem dX0_tenseAll_18 : decode cX0_tenseAll 18 = .ok (.goto (-16), 3) := by decide +kernel
theorem dX0_tenseAll_21 : decode cX0_tenseAll 21 = .ok (.return_, 1) := by decide +kernel
theorem dX0_allNotes_0 : decode cX0_allNotes 0 = .ok (.aload_n 0, 1) := by decide +kernel
theorem dX0_allNotes_1 : decode cX0_allNotes 1 = .ok (.getfield 34, 3) := by decide +kernel
theorem dX0_allNotes_4 : decode cX0_allNotes 4 = .ok (.aload_n 0, 1) := by decide +kernel
theorem dX0_allNotes_5 : decode cX0_allNotes 5 = .ok (.getfield 18, 3) := by decide +kernel
theorem dX0_allNotes_8 : decode cX0_allNotes 8 = .ok (.invokestatic 53, 3) := by decide +kernel
theorem dX0_allNotes_11 : decode cX0_allNotes 11 = .ok (.ireturn, 1) := by decide +kernel
theorem dX0_allFresh_0 : decode cX0_allFresh 0 = .ok (.aload_n 0, 1) := by decide +kernel
theorem dX0_allFresh_1 : decode cX0_allFresh 1 = .ok (.getfield 31, 3) := by decide +kernel
theorem dX0_allFresh_4 : decode cX0_allFresh 4 = .ok (.aload_n 0, 1) := by decide +kernel
theorem dX0_allFresh_5 : decode cX0_allFresh 5 = .ok (.getfield 18, 3) := by decide +kernel
theorem dX0_allFresh_8 : decode cX0_allFresh 8 = .ok (.invokestatic 53, 3) := by decide +kernel
theorem dX0_allFresh_11 : decode cX0_allFresh 11 = .ok (.ireturn, 1) := by decide +kernel
theorem dX0_allTense_0 : decode cX0_allTense 0 = .ok (.aload_n 0, 1) := by decide +kernel
theorem dX0_allTense_1 : decode cX0_allTense 1 = .ok (.getfield 25, 3) := by decide +kernel
theorem dX0_allTense_4 : decode cX0_allTense 4 = .ok (.bipush 16, 2) := by decide +kernel
theorem dX0_allTense_6 : decode cX0_allTense 6 = .ok (.invokestatic 53, 3) := by decide +kernel
theorem dX0_allTense_9 : decode cX0_allTense 9 = .ok (.ireturn, 1) := by decide +kernel
theorem dX0_sum_0 : decode cX0_sum 0 = .ok (.iconst 0, 1) := by decide +kernel
theorem dX0_sum_1 : decode cX0_sum 1 = .ok (.istore_n 2, 1) := by decide +kernel
theorem dX0_sum_2 : decode cX0_sum 2 = .ok (.iconst 0, 1) := by decide +kernel
theorem dX0_sum_3 : decode cX0_sum 3 = .ok (.istore_n 3, 1) := by decide +kernel
theorem dX0_sum_4 : decode cX0_sum 4 = .ok (.iload_n 3, 1) := by decide +kernel
theorem dX0_sum_5 : decode cX0_sum 5 = .ok (.iload_n 1, 1) := by decide +kernel
theorem dX0_sum_6 : decode cX0_sum 6 = .ok (.if_icmp .ge 15, 3) := by decide +kernel
theorem dX0_sum_9 : decode cX0_sum 9 = .ok (.iload_n 2, 1) := by decide +kernel
theorem dX0_sum_10 : decode cX0_sum 10 = .ok (.aload_n 0, 1) := by decide +kernel
theorem dX0_sum_11 : decode cX0_sum 11 = .ok (.iload_n 3, 1) := by decide +kernel
theorem dX0_sum_12 : decode cX0_sum 12 = .ok (.iaload, 1) := by decide +kernel
theorem dX0_sum_13 : decode cX0_sum 13 = .ok (.iadd, 1) := by decide +kernel
theorem dX0_sum_14 : decode cX0_sum 14 = .ok (.istore_n 2, 1) := by decide +kernel
theorem dX0_sum_15 : decode cX0_sum 15 = .ok (.iinc 3 1, 3) := by decide +kernel
theorem dX0_sum_18 : decode cX0_sum 18 = .ok (.goto (-14), 3) := by decide +kernel
theorem dX0_sum_21 : decode cX0_sum 21 = .ok (.iload_n 2, 1) := by decide +kernel
theorem dX0_sum_22 : decode cX0_sum 22 = .ok (.ireturn, 1) := by decide +kernel
theorem dX0_whoDoAsAsked_0 : decode cX0_whoDoAsAsked 0 = .ok (.iconst 0, 1) := by decide +kernel
theorem dX0_whoDoAsAsked_1 : decode cX0_whoDoAsAsked 1 = .ok (.istore_n 1, 1) := by decide +kernel
theorem dX0_whoDoAsAsked_2 : decode cX0_whoDoAsAsked 2 = .ok (.iconst 0, 1) := by decide +kernel
theorem dX0_whoDoAsAsked_3 : decode cX0_whoDoAsAsked 3 = .ok (.istore_n 2, 1) := by decide +kernel
theorem dX0_whoDoAsAsked_4 : decode cX0_whoDoAsAsked 4 = .ok (.iload_n 2, 1) := by decide +kernel
theorem dX0_whoDoAsAsked_5 : decode cX0_whoDoAsAsked 5 = .ok (.aload_n 0, 1) := by decide +kernel
theorem dX0_whoDoAsAsked_6 : decode cX0_whoDoAsAsked 6 = .ok (.getfield 18, 3) := by decide +kernel
theorem dX0_whoDoAsAsked_9 : decode cX0_whoDoAsAsked 9 = .ok (.if_icmp .ge 32, 3) := by decide +kernel
theorem dX0_whoDoAsAsked_12 : decode cX0_whoDoAsAsked 12 = .ok (.aload_n 0, 1) := by decide +kernel
theorem dX0_whoDoAsAsked_13 : decode cX0_whoDoAsAsked 13 = .ok (.iload_n 2, 1) := by decide +kernel
theorem dX0_whoDoAsAsked_14 : decode cX0_whoDoAsAsked 14 = .ok (.invokevirtual 57, 3) := by decide +kernel
theorem dX0_whoDoAsAsked_17 : decode cX0_whoDoAsAsked 17 = .ok (.aload_n 0, 1) := by decide +kernel
theorem dX0_whoDoAsAsked_18 : decode cX0_whoDoAsAsked 18 = .ok (.getfield 21, 3) := by decide +kernel
theorem dX0_whoDoAsAsked_21 : decode cX0_whoDoAsAsked 21 = .ok (.aload_n 0, 1) := by decide +kernel
theorem dX0_whoDoAsAsked_22 : decode cX0_whoDoAsAsked 22 = .ok (.getfield 15, 3) := by decide +kernel
theorem dX0_whoDoAsAsked_25 : decode cX0_whoDoAsAsked 25 = .ok (.iaload, 1) := by decide +kernel
theorem dX0_whoDoAsAsked_26 : decode cX0_whoDoAsAsked 26 = .ok (.if_icmp .ne 9, 3) := by decide +kernel
theorem dX0_whoDoAsAsked_29 : decode cX0_whoDoAsAsked 29 = .ok (.iload_n 1, 1) := by decide +kernel
theorem dX0_whoDoAsAsked_30 : decode cX0_whoDoAsAsked 30 = .ok (.iconst 1, 1) := by decide +kernel
theorem dX0_whoDoAsAsked_31 : decode cX0_whoDoAsAsked 31 = .ok (.iload_n 2, 1) := by decide +kernel
theorem dX0_whoDoAsAsked_32 : decode cX0_whoDoAsAsked 32 = .ok (.ishl, 1) := by decide +kernel
theorem dX0_whoDoAsAsked_33 : decode cX0_whoDoAsAsked 33 = .ok (.ior, 1) := by decide +kernel
theorem dX0_whoDoAsAsked_34 : decode cX0_whoDoAsAsked 34 = .ok (.istore_n 1, 1) := by decide +kernel
theorem dX0_whoDoAsAsked_35 : decode cX0_whoDoAsAsked 35 = .ok (.iinc 2 1, 3) := by decide +kernel
theorem dX0_whoDoAsAsked_38 : decode cX0_whoDoAsAsked 38 = .ok (.goto (-34), 3) := by decide +kernel
theorem dX0_whoDoAsAsked_41 : decode cX0_whoDoAsAsked 41 = .ok (.iload_n 1, 1) := by decide +kernel
theorem dX0_whoDoAsAsked_42 : decode cX0_whoDoAsAsked 42 = .ok (.ireturn, 1) := by decide +kernel
theorem dX0_howManyDo_0 : decode cX0_howManyDo 0 = .ok (.iconst 0, 1) := by decide +kernel
theorem dX0_howManyDo_1 : decode cX0_howManyDo 1 = .ok (.istore_n 2, 1) := by decide +kernel
theorem dX0_howManyDo_2 : decode cX0_howManyDo 2 = .ok (.iconst 0, 1) := by decide +kernel
theorem dX0_howManyDo_3 : decode cX0_howManyDo 3 = .ok (.istore_n 3, 1) := by decide +kernel
theorem dX0_howManyDo_4 : decode cX0_howManyDo 4 = .ok (.iload_n 3, 1) := by decide +kernel
theorem dX0_howManyDo_5 : decode cX0_howManyDo 5 = .ok (.aload_n 0, 1) := by decide +kernel
theorem dX0_howManyDo_6 : decode cX0_howManyDo 6 = .ok (.getfield 18, 3) := by decide +kernel
theorem dX0_howManyDo_9 : decode cX0_howManyDo 9 = .ok (.if_icmp .ge 21, 3) := by decide +kernel
theorem dX0_howManyDo_12 : decode cX0_howManyDo 12 = .ok (.aload_n 0, 1) := by decide +kernel
theorem dX0_howManyDo_13 : decode cX0_howManyDo 13 = .ok (.iload_n 3, 1) := by decide +kernel
theorem dX0_howManyDo_14 : decode cX0_howManyDo 14 = .ok (.invokevirtual 57, 3) := by decide +kernel
theorem dX0_howManyDo_17 : decode cX0_howManyDo 17 = .ok (.iload_n 1, 1) := by decide +kernel
theorem dX0_howManyDo_18 : decode cX0_howManyDo 18 = .ok (.if_icmp .ne 6, 3) := by decide +kernel
theorem dX0_howManyDo_21 : decode cX0_howManyDo 21 = .ok (.iinc 2 1, 3) := by decide +kernel
theorem dX0_howManyDo_24 : decode cX0_howManyDo 24 = .ok (.iinc 3 1, 3) := by decide +kernel
theorem dX0_howManyDo_27 : decode cX0_howManyDo 27 = .ok (.goto (-23), 3) := by decide +kernel
theorem dX0_howManyDo_30 : decode cX0_howManyDo 30 = .ok (.iload_n 2, 1) := by decide +kernel
theorem dX0_howManyDo_31 : decode cX0_howManyDo 31 = .ok (.ireturn, 1) := by decide +kernel
theorem dX0_deedOf_0 : decode cX0_deedOf 0 = .ok (.aload_n 0, 1) := by decide +kernel
theorem dX0_deedOf_1 : decode cX0_deedOf 1 = .ok (.getfield 28, 3) := by decide +kernel
theorem dX0_deedOf_4 : decode cX0_deedOf 4 = .ok (.iload_n 1, 1) := by decide +kernel
theorem dX0_deedOf_5 : decode cX0_deedOf 5 = .ok (.iaload, 1) := by decide +kernel
theorem dX0_deedOf_6 : decode cX0_deedOf 6 = .ok (.tableswitch 102 1 5 #[34, 40, 46, 48, 83], 34) := by decide +kernel
theorem dX0_deedOf_40 : decode cX0_deedOf 40 = .ok (.aload_n 0, 1) := by decide +kernel
theorem dX0_deedOf_41 : decode cX0_deedOf 41 = .ok (.iload_n 1, 1) := by decide +kernel
theorem dX0_deedOf_42 : decode cX0_deedOf 42 = .ok (.invokevirtual 61, 3) := by decide +kernel
theorem dX0_deedOf_45 : decode cX0_deedOf 45 = .ok (.ireturn, 1) := by decide +kernel
theorem dX0_deedOf_46 : decode cX0_deedOf 46 = .ok (.aload_n 0, 1) := by decide +kernel
theorem dX0_deedOf_47 : decode cX0_deedOf 47 = .ok (.iload_n 1, 1) := by decide +kernel
theorem dX0_deedOf_48 : decode cX0_deedOf 48 = .ok (.invokevirtual 64, 3) := by decide +kernel
theorem dX0_deedOf_51 : decode cX0_deedOf 51 = .ok (.ireturn, 1) := by decide +kernel
theorem dX0_deedOf_52 : decode cX0_deedOf 52 = .ok (.iconst 0, 1) := by decide +kernel
theorem dX0_deedOf_53 : decode cX0_deedOf 53 = .ok (.ireturn, 1) := by decide +kernel
theorem dX0_deedOf_54 : decode cX0_deedOf 54 = .ok (.aload_n 0, 1) := by decide +kernel
theorem dX0_deedOf_55 : decode cX0_deedOf 55 = .ok (.getfield 21, 3) := by decide +kernel
theorem dX0_deedOf_58 : decode cX0_deedOf 58 = .ok (.aload_n 0, 1) := by decide +kernel
theorem dX0_deedOf_59 : decode cX0_deedOf 59 = .ok (.getfield 15, 3) := by decide +kernel
theorem dX0_deedOf_62 : decode cX0_deedOf 62 = .ok (.iaload, 1) := by decide +kernel
theorem dX0_deedOf_63 : decode cX0_deedOf 63 = .ok (.iconst 4, 1) := by decide +kernel
theorem dX0_deedOf_64 : decode cX0_deedOf 64 = .ok (.if_icmp .eq 15, 3) := by decide +kernel
theorem dX0_deedOf_67 : decode cX0_deedOf 67 = .ok (.aload_n 0, 1) := by decide +kernel
theorem dX0_deedOf_68 : decode cX0_deedOf 68 = .ok (.getfield 15, 3) := by decide +kernel
theorem dX0_deedOf_71 : decode cX0_deedOf 71 = .ok (.bipush 8, 2) := by decide +kernel
theorem dX0_deedOf_73 : decode cX0_deedOf 73 = .ok (.irem, 1) := by decide +kernel
theorem dX0_deedOf_74 : decode cX0_deedOf 74 = .ok (.bipush 7, 2) := by decide +kernel
theorem dX0_deedOf_76 : decode cX0_deedOf 76 = .ok (.if_icmp .ne 7, 3) := by decide +kernel
theorem dX0_deedOf_79 : decode cX0_deedOf 79 = .ok (.iconst 4, 1) := by decide +kernel
theorem dX0_deedOf_80 : decode cX0_deedOf 80 = .ok (.goto 8, 3) := by decide +kernel
theorem dX0_deedOf_83 : decode cX0_deedOf 83 = .ok (.aload_n 0, 1) := by decide +kernel
theorem dX0_deedOf_84 : decode cX0_deedOf 84 = .ok (.iload_n 1, 1) := by decide +kernel
theorem dX0_deedOf_85 : decode cX0_deedOf 85 = .ok (.invokevirtual 61, 3) := by decide +kernel
theorem dX0_deedOf_88 : decode cX0_deedOf 88 = .ok (.ireturn, 1) := by decide +kernel
theorem dX0_deedOf_89 : decode cX0_deedOf 89 = .ok (.aload_n 0, 1) := by decide +kernel
theorem dX0_deedOf_90 : decode cX0_deedOf 90 = .ok (.iload_n 1, 1) := by decide +kernel
theorem dX0_deedOf_91 : decode cX0_deedOf 91 = .ok (.iconst 1, 1) := by decide +kernel
theorem dX0_deedOf_92 : decode cX0_deedOf 92 = .ok (.invokevirtual 67, 3) := by decide +kernel
theorem dX0_deedOf_95 : decode cX0_deedOf 95 = .ok (.ifCond .eq 7, 3) := by decide +kernel
theorem dX0_deedOf_98 : decode cX0_deedOf 98 = .ok (.iconst 1, 1) := by decide +kernel
theorem dX0_deedOf_99 : decode cX0_deedOf 99 = .ok (.goto 8, 3) := by decide +kernel
theorem dX0_deedOf_102 : decode cX0_deedOf 102 = .ok (.aload_n 0, 1) := by decide +kernel
theorem dX0_deedOf_103 : decode cX0_deedOf 103 = .ok (.iload_n 1, 1) := by decide +kernel
theorem dX0_deedOf_104 : decode cX0_deedOf 104 = .ok (.invokevirtual 64, 3) := by decide +kernel
theorem dX0_deedOf_107 : decode cX0_deedOf 107 = .ok (.ireturn, 1) := by decide +kernel
theorem dX0_deedOf_108 : decode cX0_deedOf 108 = .ok (.aload_n 0, 1) := by decide +kernel
theorem dX0_deedOf_109 : decode cX0_deedOf 109 = .ok (.iload_n 1, 1) := by decide +kernel
theorem dX0_deedOf_110 : decode cX0_deedOf 110 = .ok (.invokevirtual 71, 3) := by decide +kernel
theorem dX0_deedOf_113 : decode cX0_deedOf 113 = .ok (.ireturn, 1) := by decide +kernel
theorem dX0_sitterDeed_0 : decode cX0_sitterDeed 0 = .ok (.aload_n 0, 1) := by decide +kernel
theorem dX0_sitterDeed_1 : decode cX0_sitterDeed 1 = .ok (.getfield 31, 3) := by decide +kernel
theorem dX0_sitterDeed_4 : decode cX0_sitterDeed 4 = .ok (.iload_n 1, 1) := by decide +kernel
theorem dX0_sitterDeed_5 : decode cX0_sitterDeed 5 = .ok (.iaload, 1) := by decide +kernel
theorem dX0_sitterDeed_6 : decode cX0_sitterDeed 6 = .ok (.aload_n 0, 1) := by decide +kernel
theorem dX0_sitterDeed_7 : decode cX0_sitterDeed 7 = .ok (.getfield 25, 3) := by decide +kernel
theorem dX0_sitterDeed_10 : decode cX0_sitterDeed 10 = .ok (.aload_n 0, 1) := by decide +kernel
theorem dX0_sitterDeed_11 : decode cX0_sitterDeed 11 = .ok (.getfield 15, 3) := by decide +kernel
theorem dX0_sitterDeed_14 : decode cX0_sitterDeed 14 = .ok (.iaload, 1) := by decide +kernel
theorem dX0_sitterDeed_15 : decode cX0_sitterDeed 15 = .ok (.if_icmp .lt 15, 3) := by decide +kernel
theorem dX0_sitterDeed_18 : decode cX0_sitterDeed 18 = .ok (.aload_n 0, 1) := by decide +kernel
theorem dX0_sitterDeed_19 : decode cX0_sitterDeed 19 = .ok (.getfield 21, 3) := by decide +kernel
theorem dX0_sitterDeed_22 : decode cX0_sitterDeed 22 = .ok (.aload_n 0, 1) := by decide +kernel
theorem dX0_sitterDeed_23 : decode cX0_sitterDeed 23 = .ok (.getfield 15, 3) := by decide +kernel
theorem dX0_sitterDeed_26 : decode cX0_sitterDeed 26 = .ok (.iaload, 1) := by decide +kernel
theorem dX0_sitterDeed_27 : decode cX0_sitterDeed 27 = .ok (.goto 4, 3) := by decide +kernel
theorem dX0_sitterDeed_30 : decode cX0_sitterDeed 30 = .ok (.iconst 0, 1) := by decide +kernel
theorem dX0_sitterDeed_31 : decode cX0_sitterDeed 31 = .ok (.ireturn, 1) := by decide +kernel
theorem dX0_cougherDeed_0 : decode cX0_cougherDeed 0 = .ok (.aload_n 0, 1) := by decide +kernel
theorem dX0_cougherDeed_1 : decode cX0_cougherDeed 1 = .ok (.iload_n 1, 1) := by decide +kernel
theorem dX0_cougherDeed_2 : decode cX0_cougherDeed 2 = .ok (.iconst 3, 1) := by decide +kernel
theorem dX0_cougherDeed_3 : decode cX0_cougherDeed 3 = .ok (.invokevirtual 67, 3) := by decide +kernel
theorem dX0_cougherDeed_6 : decode cX0_cougherDeed 6 = .ok (.ifCond .eq 7, 3) := by decide +kernel
theorem dX0_cougherDeed_9 : decode cX0_cougherDeed 9 = .ok (.iconst 3, 1) := by decide +kernel
theorem dX0_cougherDeed_10 : decode cX0_cougherDeed 10 = .ok (.goto 8, 3) := by decide +kernel
theorem dX0_cougherDeed_13 : decode cX0_cougherDeed 13 = .ok (.aload_n 0, 1) := by decide +kernel
theorem dX0_cougherDeed_14 : decode cX0_cougherDeed 14 = .ok (.iload_n 1, 1) := by decide +kernel
theorem dX0_cougherDeed_15 : decode cX0_cougherDeed 15 = .ok (.invokevirtual 71, 3) := by decide +kernel
theorem dX0_cougherDeed_18 : decode cX0_cougherDeed 18 = .ok (.ireturn, 1) := by decide +kernel
theorem dX0_weeperDeed_0 : decode cX0_weeperDeed 0 = .ok (.aload_n 0, 1) := by decide +kernel
theorem dX0_weeperDeed_1 : decode cX0_weeperDeed 1 = .ok (.getfield 31, 3) := by decide +kernel
theorem dX0_weeperDeed_4 : decode cX0_weeperDeed 4 = .ok (.iload_n 1, 1) := by decide +kernel
theorem dX0_weeperDeed_5 : decode cX0_weeperDeed 5 = .ok (.iaload, 1) := by decide +kernel
theorem dX0_weeperDeed_6 : decode cX0_weeperDeed 6 = .ok (.bipush 40, 2) := by decide +kernel
theorem dX0_weeperDeed_8 : decode cX0_weeperDeed 8 = .ok (.if_icmp .lt 20, 3) := by decide +kernel
theorem dX0_weeperDeed_11 : decode cX0_weeperDeed 11 = .ok (.aload_n 0, 1) := by decide +kernel
theorem dX0_weeperDeed_12 : decode cX0_weeperDeed 12 = .ok (.getfield 21, 3) := by decide +kernel
theorem dX0_weeperDeed_15 : decode cX0_weeperDeed 15 = .ok (.aload_n 0, 1) := by decide +kernel
theorem dX0_weeperDeed_16 : decode cX0_weeperDeed 16 = .ok (.getfield 15, 3) := by decide +kernel
theorem dX0_weeperDeed_19 : decode cX0_weeperDeed 19 = .ok (.iaload, 1) := by decide +kernel
theorem dX0_weeperDeed_20 : decode cX0_weeperDeed 20 = .ok (.iconst 2, 1) := by decide +kernel
theorem dX0_weeperDeed_21 : decode cX0_weeperDeed 21 = .ok (.if_icmp .eq 7, 3) := by decide +kernel
theorem dX0_weeperDeed_24 : decode cX0_weeperDeed 24 = .ok (.iconst 1, 1) := by decide +kernel
theorem dX0_weeperDeed_25 : decode cX0_weeperDeed 25 = .ok (.goto 8, 3) := by decide +kernel
theorem dX0_weeperDeed_28 : decode cX0_weeperDeed 28 = .ok (.aload_n 0, 1) := by decide +kernel
theorem dX0_weeperDeed_29 : decode cX0_weeperDeed 29 = .ok (.iload_n 1, 1) := by decide +kernel
theorem dX0_weeperDeed_30 : decode cX0_weeperDeed 30 = .ok (.invokevirtual 71, 3) := by decide +kernel
theorem dX0_weeperDeed_33 : decode cX0_weeperDeed 33 = .ok (.ireturn, 1) := by decide +kernel
theorem dX0_neighbourDid_0 : decode cX0_neighbourDid 0 = .ok (.iload_n 1, 1) := by decide +kernel
theorem dX0_neighbourDid_1 : decode cX0_neighbourDid 1 = .ok (.ifCond .le 15, 3) := by decide +kernel
theorem dX0_neighbourDid_4 : decode cX0_neighbourDid 4 = .ok (.aload_n 0, 1) := by decide +kernel
theorem dX0_neighbourDid_5 : decode cX0_neighbourDid 5 = .ok (.getfield 37, 3) := by decide +kernel
theorem dX0_neighbourDid_8 : decode cX0_neighbourDid 8 = .ok (.iload_n 1, 1) := by decide +kernel
theorem dX0_neighbourDid_9 : decode cX0_neighbourDid 9 = .ok (.iconst 1, 1) := by decide +kernel
theorem dX0_neighbourDid_10 : decode cX0_neighbourDid 10 = .ok (.isub, 1) := by decide +kernel
theorem dX0_neighbourDid_11 : decode cX0_neighbourDid 11 = .ok (.iaload, 1) := by decide +kernel
theorem dX0_neighbourDid_12 : decode cX0_neighbourDid 12 = .ok (.iload_n 2, 1) := by decide +kernel
theorem dX0_neighbourDid_13 : decode cX0_neighbourDid 13 = .ok (.if_icmp .eq 25, 3) := by decide +kernel
theorem dX0_neighbourDid_16 : decode cX0_neighbourDid 16 = .ok (.iload_n 1, 1) := by decide +kernel
theorem dX0_neighbourDid_17 : decode cX0_neighbourDid 17 = .ok (.iconst 1, 1) := by decide +kernel
theorem dX0_neighbourDid_18 : decode cX0_neighbourDid 18 = .ok (.iadd, 1) := by decide +kernel
theorem dX0_neighbourDid_19 : decode cX0_neighbourDid 19 = .ok (.aload_n 0, 1) := by decide +kernel
theorem dX0_neighbourDid_20 : decode cX0_neighbourDid 20 = .ok (.getfield 18, 3) := by decide +kernel
theorem dX0_neighbourDid_23 : decode cX0_neighbourDid 23 = .ok (.if_icmp .ge 19, 3) := by decide +kernel
theorem dX0_neighbourDid_26 : decode cX0_neighbourDid 26 = .ok (.aload_n 0, 1) := by decide +kernel
theorem dX0_neighbourDid_27 : decode cX0_neighbourDid 27 = .ok (.getfield 37, 3) := by decide +kernel
theorem dX0_neighbourDid_30 : decode cX0_neighbourDid 30 = .ok (.iload_n 1, 1) := by decide +kernel
theorem dX0_neighbourDid_31 : decode cX0_neighbourDid 31 = .ok (.iconst 1, 1) := by decide +kernel
theorem dX0_neighbourDid_32 : decode cX0_neighbourDid 32 = .ok (.iadd, 1) := by decide +kernel
theorem dX0_neighbourDid_33 : decode cX0_neighbourDid 33 = .ok (.iaload, 1) := by decide +kernel
theorem dX0_neighbourDid_34 : decode cX0_neighbourDid 34 = .ok (.iload_n 2, 1) := by decide +kernel
theorem dX0_neighbourDid_35 : decode cX0_neighbourDid 35 = .ok (.if_icmp .ne 7, 3) := by decide +kernel
theorem dX0_neighbourDid_38 : decode cX0_neighbourDid 38 = .ok (.iconst 1, 1) := by decide +kernel
theorem dX0_neighbourDid_39 : decode cX0_neighbourDid 39 = .ok (.goto 4, 3) := by decide +kernel
theorem dX0_neighbourDid_42 : decode cX0_neighbourDid 42 = .ok (.iconst 0, 1) := by decide +kernel
theorem dX0_neighbourDid_43 : decode cX0_neighbourDid 43 = .ok (.ireturn, 1) := by decide +kernel
theorem dX0_allNotesOn_0 : decode cX0_allNotesOn 0 = .ok (.aload_n 0, 1) := by decide +kernel
theorem dX0_allNotesOn_1 : decode cX0_allNotesOn 1 = .ok (.iload_n 1, 1) := by decide +kernel
theorem dX0_allNotesOn_2 : decode cX0_allNotesOn 2 = .ok (.invokevirtual 74, 3) := by decide +kernel
theorem dX0_allNotesOn_5 : decode cX0_allNotesOn 5 = .ok (.aload_n 0, 1) := by decide +kernel
theorem dX0_allNotesOn_6 : decode cX0_allNotesOn 6 = .ok (.invokevirtual 78, 3) := by decide +kernel
theorem dX0_allNotesOn_9 : decode cX0_allNotesOn 9 = .ok (.ireturn, 1) := by decide +kernel
theorem dX0_goOn_0 : decode cX0_goOn 0 = .ok (.iconst 0, 1) := by decide +kernel
theorem dX0_goOn_1 : decode cX0_goOn 1 = .ok (.istore_n 2, 1) := by decide +kernel
theorem dX0_goOn_2 : decode cX0_goOn 2 = .ok (.iload_n 2, 1) := by decide +kernel
theorem dX0_goOn_3 : decode cX0_goOn 3 = .ok (.iload_n 1, 1) := by decide +kernel
theorem dX0_goOn_4 : decode cX0_goOn 4 = .ok (.if_icmp .ge 13, 3) := by decide +kernel
theorem dX0_goOn_7 : decode cX0_goOn 7 = .ok (.aload_n 0, 1) := by decide +kernel
theorem dX0_goOn_8 : decode cX0_goOn 8 = .ok (.invokevirtual 82, 3) := by decide +kernel
theorem dX0_goOn_11 : decode cX0_goOn 11 = .ok (.iinc 2 1, 3) := by decide +kernel
theorem dX0_goOn_14 : decode cX0_goOn 14 = .ok (.goto (-12), 3) := by decide +kernel
theorem dX0_goOn_17 : decode cX0_goOn 17 = .ok (.return_, 1) := by decide +kernel
theorem dX0_go_0 : decode cX0_go 0 = .ok (.aload_n 0, 1) := by decide +kernel
theorem dX0_go_1 : decode cX0_go 1 = .ok (.getfield 21, 3) := by decide +kernel
theorem dX0_go_4 : decode cX0_go 4 = .ok (.aload_n 0, 1) := by decide +kernel
theorem dX0_go_5 : decode cX0_go 5 = .ok (.getfield 15, 3) := by decide +kernel
theorem dX0_go_8 : decode cX0_go 8 = .ok (.iaload, 1) := by decide +kernel
theorem dX0_go_9 : decode cX0_go 9 = .ok (.istore_n 1, 1) := by decide +kernel
theorem dX0_go_10 : decode cX0_go 10 = .ok (.iconst 0, 1) := by decide +kernel
theorem dX0_go_11 : decode cX0_go 11 = .ok (.istore_n 2, 1) := by decide +kernel
theorem dX0_go_12 : decode cX0_go 12 = .ok (.iload_n 2, 1) := by decide +kernel
theorem dX0_go_13 : decode cX0_go 13 = .ok (.aload_n 0, 1) := by decide +kernel
theorem dX0_go_14 : decode cX0_go 14 = .ok (.getfield 18, 3) := by decide +kernel
theorem dX0_go_17 : decode cX0_go 17 = .ok (.if_icmp .ge 20, 3) := by decide +kernel
theorem dX0_go_20 : decode cX0_go 20 = .ok (.aload_n 0, 1) := by decide +kernel
theorem dX0_go_21 : decode cX0_go 21 = .ok (.getfield 40, 3) := by decide +kernel
theorem dX0_go_24 : decode cX0_go 24 = .ok (.iload_n 2, 1) := by decide +kernel
theorem dX0_go_25 : decode cX0_go 25 = .ok (.aload_n 0, 1) := by decide +kernel
theorem dX0_go_26 : decode cX0_go 26 = .ok (.iload_n 2, 1) := by decide +kernel
theorem dX0_go_27 : decode cX0_go 27 = .ok (.invokevirtual 57, 3) := by decide +kernel
theorem dX0_go_30 : decode cX0_go 30 = .ok (.iastore, 1) := by decide +kernel
theorem dX0_go_31 : decode cX0_go 31 = .ok (.iinc 2 1, 3) := by decide +kernel
theorem dX0_go_34 : decode cX0_go 34 = .ok (.goto (-22), 3) := by decide +kernel
theorem dX0_go_37 : decode cX0_go 37 = .ok (.iconst 0, 1) := by decide +kernel
theorem dX0_go_38 : decode cX0_go 38 = .ok (.istore_n 2, 1) := by decide +kernel
theorem dX0_go_39 : decode cX0_go 39 = .ok (.iload_n 2, 1) := by decide +kernel
theorem dX0_go_40 : decode cX0_go 40 = .ok (.aload_n 0, 1) := by decide +kernel
theorem dX0_go_41 : decode cX0_go 41 = .ok (.getfield 18, 3) := by decide +kernel
theorem dX0_go_44 : decode cX0_go 44 = .ok (.if_icmp .ge 59, 3) := by decide +kernel
theorem dX0_go_47 : decode cX0_go 47 = .ok (.aload_n 0, 1) := by decide +kernel
theorem dX0_go_48 : decode cX0_go 48 = .ok (.getfield 34, 3) := by decide +kernel
theorem dX0_go_51 : decode cX0_go 51 = .ok (.iload_n 2, 1) := by decide +kernel
theorem dX0_go_52 : decode cX0_go 52 = .ok (.aload_n 0, 1) := by decide +kernel
theorem dX0_go_53 : decode cX0_go 53 = .ok (.getfield 34, 3) := by decide +kernel
theorem dX0_go_56 : decode cX0_go 56 = .ok (.iload_n 2, 1) := by decide +kernel
theorem dX0_go_57 : decode cX0_go 57 = .ok (.iaload, 1) := by decide +kernel
theorem dX0_go_58 : decode cX0_go 58 = .ok (.aload_n 0, 1) := by decide +kernel
theorem dX0_go_59 : decode cX0_go 59 = .ok (.getfield 28, 3) := by decide +kernel
theorem dX0_go_62 : decode cX0_go 62 = .ok (.iload_n 2, 1) := by decide +kernel
theorem dX0_go_63 : decode cX0_go 63 = .ok (.iaload, 1) := by decide +kernel
theorem dX0_go_64 : decode cX0_go 64 = .ok (.aload_n 0, 1) := by decide +kernel
theorem dX0_go_65 : decode cX0_go 65 = .ok (.getfield 40, 3) := by decide +kernel
theorem dX0_go_68 : decode cX0_go 68 = .ok (.iload_n 2, 1) := by decide +kernel
theorem dX0_go_69 : decode cX0_go 69 = .ok (.iaload, 1) := by decide +kernel
theorem dX0_go_70 : decode cX0_go 70 = .ok (.iload_n 1, 1) := by decide +kernel
theorem dX0_go_71 : decode cX0_go 71 = .ok (.invokestatic 85, 3) := by decide +kernel
theorem dX0_go_74 : decode cX0_go 74 = .ok (.iadd, 1) := by decide +kernel
theorem dX0_go_75 : decode cX0_go 75 = .ok (.sipush (-9999), 3) := by decide +kernel
theorem dX0_go_78 : decode cX0_go 78 = .ok (.sipush 9999, 3) := by decide +kernel
theorem dX0_go_81 : decode cX0_go 81 = .ok (.invokestatic 89, 3) := by decide +kernel
theorem dX0_go_84 : decode cX0_go 84 = .ok (.iastore, 1) := by decide +kernel
theorem dX0_go_85 : decode cX0_go 85 = .ok (.aload_n 0, 1) := by decide +kernel
theorem dX0_go_86 : decode cX0_go 86 = .ok (.getfield 37, 3) := by decide +kernel
theorem dX0_go_89 : decode cX0_go 89 = .ok (.iload_n 2, 1) := by decide +kernel
theorem dX0_go_90 : decode cX0_go 90 = .ok (.aload_n 0, 1) := by decide +kernel
theorem dX0_go_91 : decode cX0_go 91 = .ok (.getfield 40, 3) := by decide +kernel
theorem dX0_go_94 : decode cX0_go 94 = .ok (.iload_n 2, 1) := by decide +kernel
theorem dX0_go_95 : decode cX0_go 95 = .ok (.iaload, 1) := by decide +kernel
theorem dX0_go_96 : decode cX0_go 96 = .ok (.iastore, 1) := by decide +kernel
theorem dX0_go_97 : decode cX0_go 97 = .ok (.iinc 2 1, 3) := by decide +kernel
theorem dX0_go_100 : decode cX0_go 100 = .ok (.goto (-61), 3) := by decide +kernel
theorem dX0_go_103 : decode cX0_go 103 = .ok (.aload_n 0, 1) := by decide +kernel
theorem dX0_go_104 : decode cX0_go 104 = .ok (.dup, 1) := by decide +kernel
theorem dX0_go_105 : decode cX0_go 105 = .ok (.getfield 15, 3) := by decide +kernel
theorem dX0_go_108 : decode cX0_go 108 = .ok (.iconst 1, 1) := by decide +kernel
theorem dX0_go_109 : decode cX0_go 109 = .ok (.iadd, 1) := by decide +kernel
theorem dX0_go_110 : decode cX0_go 110 = .ok (.putfield 15, 3) := by decide +kernel
theorem dX0_go_113 : decode cX0_go 113 = .ok (.aload_n 0, 1) := by decide +kernel
theorem dX0_go_114 : decode cX0_go 114 = .ok (.getfield 15, 3) := by decide +kernel
theorem dX0_go_117 : decode cX0_go 117 = .ok (.bipush 16, 2) := by decide +kernel
theorem dX0_go_119 : decode cX0_go 119 = .ok (.if_icmp .lt 7, 3) := by decide +kernel
theorem dX0_go_122 : decode cX0_go 122 = .ok (.aload_n 0, 1) := by decide +kernel
theorem dX0_go_123 : decode cX0_go 123 = .ok (.invokevirtual 92, 3) := by decide +kernel
theorem dX0_go_126 : decode cX0_go 126 = .ok (.return_, 1) := by decide +kernel
theorem dX0_endNight_0 : decode cX0_endNight 0 = .ok (.aload_n 0, 1) := by decide +kernel
theorem dX0_endNight_1 : decode cX0_endNight 1 = .ok (.iconst 0, 1) := by decide +kernel
theorem dX0_endNight_2 : decode cX0_endNight 2 = .ok (.putfield 15, 3) := by decide +kernel
theorem dX0_endNight_5 : decode cX0_endNight 5 = .ok (.aload_n 0, 1) := by decide +kernel
theorem dX0_endNight_6 : decode cX0_endNight 6 = .ok (.dup, 1) := by decide +kernel
theorem dX0_endNight_7 : decode cX0_endNight 7 = .ok (.getfield 9, 3) := by decide +kernel
theorem dX0_endNight_10 : decode cX0_endNight 10 = .ok (.iconst 1, 1) := by decide +kernel
theorem dX0_endNight_11 : decode cX0_endNight 11 = .ok (.iadd, 1) := by decide +kernel
theorem dX0_endNight_12 : decode cX0_endNight 12 = .ok (.putfield 9, 3) := by decide +kernel
theorem dX0_endNight_15 : decode cX0_endNight 15 = .ok (.iconst 0, 1) := by decide +kernel
theorem dX0_endNight_16 : decode cX0_endNight 16 = .ok (.istore_n 1, 1) := by decide +kernel
theorem dX0_endNight_17 : decode cX0_endNight 17 = .ok (.iload_n 1, 1) := by decide +kernel
theorem dX0_endNight_18 : decode cX0_endNight 18 = .ok (.aload_n 0, 1) := by decide +kernel
theorem dX0_endNight_19 : decode cX0_endNight 19 = .ok (.getfield 18, 3) := by decide +kernel
theorem dX0_endNight_22 : decode cX0_endNight 22 = .ok (.if_icmp .ge 44, 3) := by decide +kernel
theorem dX0_endNight_25 : decode cX0_endNight 25 = .ok (.aload_n 0, 1) := by decide +kernel
theorem dX0_endNight_26 : decode cX0_endNight 26 = .ok (.getfield 31, 3) := by decide +kernel
theorem dX0_endNight_29 : decode cX0_endNight 29 = .ok (.iload_n 1, 1) := by decide +kernel
theorem dX0_endNight_30 : decode cX0_endNight 30 = .ok (.aload_n 0, 1) := by decide +kernel
theorem dX0_endNight_31 : decode cX0_endNight 31 = .ok (.getfield 31, 3) := by decide +kernel
theorem dX0_endNight_34 : decode cX0_endNight 34 = .ok (.iload_n 1, 1) := by decide +kernel
theorem dX0_endNight_35 : decode cX0_endNight 35 = .ok (.iaload, 1) := by decide +kernel
theorem dX0_endNight_36 : decode cX0_endNight 36 = .ok (.aload_n 0, 1) := by decide +kernel
theorem dX0_endNight_37 : decode cX0_endNight 37 = .ok (.getfield 28, 3) := by decide +kernel
theorem dX0_endNight_40 : decode cX0_endNight 40 = .ok (.iload_n 1, 1) := by decide +kernel
theorem dX0_endNight_41 : decode cX0_endNight 41 = .ok (.iaload, 1) := by decide +kernel
theorem dX0_endNight_42 : decode cX0_endNight 42 = .ok (.invokestatic 95, 3) := by decide +kernel
theorem dX0_endNight_45 : decode cX0_endNight 45 = .ok (.isub, 1) := by decide +kernel
theorem dX0_endNight_46 : decode cX0_endNight 46 = .ok (.iconst 0, 1) := by decide +kernel
theorem dX0_endNight_47 : decode cX0_endNight 47 = .ok (.bipush 99, 2) := by decide +kernel
theorem dX0_endNight_49 : decode cX0_endNight 49 = .ok (.invokestatic 89, 3) := by decide +kernel
theorem dX0_endNight_52 : decode cX0_endNight 52 = .ok (.iastore, 1) := by decide +kernel
theorem dX0_endNight_53 : decode cX0_endNight 53 = .ok (.aload_n 0, 1) := by decide +kernel
theorem dX0_endNight_54 : decode cX0_endNight 54 = .ok (.getfield 37, 3) := by decide +kernel
theorem dX0_endNight_57 : decode cX0_endNight 57 = .ok (.iload_n 1, 1) := by decide +kernel
theorem dX0_endNight_58 : decode cX0_endNight 58 = .ok (.iconst 0, 1) := by decide +kernel
theorem dX0_endNight_59 : decode cX0_endNight 59 = .ok (.iastore, 1) := by decide +kernel
theorem dX0_endNight_60 : decode cX0_endNight 60 = .ok (.iinc 1 1, 3) := by decide +kernel
theorem dX0_endNight_63 : decode cX0_endNight 63 = .ok (.goto (-46), 3) := by decide +kernel
theorem dX0_endNight_66 : decode cX0_endNight 66 = .ok (.return_, 1) := by decide +kernel
theorem dX1_init_0 : decode cX1_init 0 = .ok (.aload_n 0, 1) := by decide +kernel
theorem dX1_init_1 : decode cX1_init 1 = .ok (.invokespecial 3, 3) := by decide +kernel
theorem dX1_init_4 : decode cX1_init 4 = .ok (.aload_n 0, 1) := by decide +kernel
theorem dX1_init_5 : decode cX1_init 5 = .ok (.bipush 40, 2) := by decide +kernel
theorem dX1_init_7 : decode cX1_init 7 = .ok (.newarray .long, 2) := by decide +kernel
theorem dX1_init_9 : decode cX1_init 9 = .ok (.putfield 9, 3) := by decide +kernel
theorem dX1_init_12 : decode cX1_init 12 = .ok (.aload_n 0, 1) := by decide +kernel
theorem dX1_init_13 : decode cX1_init 13 = .ok (.iconst 0, 1) := by decide +kernel
theorem dX1_init_14 : decode cX1_init 14 = .ok (.putfield 15, 3) := by decide +kernel
theorem dX1_init_17 : decode cX1_init 17 = .ok (.aload_n 0, 1) := by decide +kernel
theorem dX1_init_18 : decode cX1_init 18 = .ok (.iconst 0, 1) := by decide +kernel
theorem dX1_init_19 : decode cX1_init 19 = .ok (.putfield 19, 3) := by decide +kernel
theorem dX1_init_22 : decode cX1_init 22 = .ok (.return_, 1) := by decide +kernel
theorem dX1_isMissing_0 : decode cX1_isMissing 0 = .ok (.aload_n 0, 1) := by decide +kernel
theorem dX1_isMissing_1 : decode cX1_isMissing 1 = .ok (.getfield 15, 3) := by decide +kernel
theorem dX1_isMissing_4 : decode cX1_isMissing 4 = .ok (.ifCond .ne 7, 3) := by decide +kernel
theorem dX1_isMissing_7 : decode cX1_isMissing 7 = .ok (.iconst 1, 1) := by decide +kernel
theorem dX1_isMissing_8 : decode cX1_isMissing 8 = .ok (.goto 4, 3) := by decide +kernel
theorem dX1_isMissing_11 : decode cX1_isMissing 11 = .ok (.iconst 0, 1) := by decide +kernel
theorem dX1_isMissing_12 : decode cX1_isMissing 12 = .ok (.ireturn, 1) := by decide +kernel
theorem dX1_layOut_0 : decode cX1_layOut 0 = .ok (.aload_n 0, 1) := by decide +kernel
theorem dX1_layOut_1 : decode cX1_layOut 1 = .ok (.iload_n 1, 1) := by decide +kernel
theorem dX1_layOut_2 : decode cX1_layOut 2 = .ok (.putfield 15, 3) := by decide +kernel
theorem dX1_layOut_5 : decode cX1_layOut 5 = .ok (.aload_n 0, 1) := by decide +kernel
theorem dX1_layOut_6 : decode cX1_layOut 6 = .ok (.iload_n 1, 1) := by decide +kernel
theorem dX1_layOut_7 : decode cX1_layOut 7 = .ok (.ifCond .ne 7, 3) := by decide +kernel
theorem dX1_layOut_10 : decode cX1_layOut 10 = .ok (.iconst 0, 1) := by decide +kernel
theorem dX1_layOut_11 : decode cX1_layOut 11 = .ok (.goto 4, 3) := by decide +kernel
theorem dX1_layOut_14 : decode cX1_layOut 14 = .ok (.iload_n 2, 1) := by decide +kernel
theorem dX1_layOut_15 : decode cX1_layOut 15 = .ok (.putfield 19, 3) := by decide +kernel
theorem dX1_layOut_18 : decode cX1_layOut 18 = .ok (.iconst 0, 1) := by decide +kernel
theorem dX1_layOut_19 : decode cX1_layOut 19 = .ok (.istore_n 3, 1) := by decide +kernel
theorem dX1_layOut_20 : decode cX1_layOut 20 = .ok (.iload_n 3, 1) := by decide +kernel
theorem dX1_layOut_21 : decode cX1_layOut 21 = .ok (.bipush 40, 2) := by decide +kernel
theorem dX1_layOut_23 : decode cX1_layOut 23 = .ok (.if_icmp .ge 16, 3) := by decide +kernel
theorem dX1_layOut_26 : decode cX1_layOut 26 = .ok (.aload_n 0, 1) := by decide +kernel
theorem dX1_layOut_27 : decode cX1_layOut 27 = .ok (.getfield 9, 3) := by decide +kernel
theorem dX1_layOut_30 : decode cX1_layOut 30 = .ok (.iload_n 3, 1) := by decide +kernel
theorem dX1_layOut_31 : decode cX1_layOut 31 = .ok (.lconst 0, 1) := by decide +kernel
theorem dX1_layOut_32 : decode cX1_layOut 32 = .ok (.lastore, 1) := by decide +kernel
theorem dX1_layOut_33 : decode cX1_layOut 33 = .ok (.iinc 3 1, 3) := by decide +kernel
theorem dX1_layOut_36 : decode cX1_layOut 36 = .ok (.goto (-16), 3) := by decide +kernel
theorem dX1_layOut_39 : decode cX1_layOut 39 = .ok (.return_, 1) := by decide +kernel
theorem dX1_put_0 : decode cX1_put 0 = .ok (.aload_n 0, 1) := by decide +kernel
theorem dX1_put_1 : decode cX1_put 1 = .ok (.getfield 9, 3) := by decide +kernel
theorem dX1_put_4 : decode cX1_put 4 = .ok (.iload_n 1, 1) := by decide +kernel
theorem dX1_put_5 : decode cX1_put 5 = .ok (.aload_n 0, 1) := by decide +kernel
theorem dX1_put_6 : decode cX1_put 6 = .ok (.getfield 15, 3) := by decide +kernel
theorem dX1_put_9 : decode cX1_put 9 = .ok (.bipush 8, 2) := by decide +kernel
theorem dX1_put_11 : decode cX1_put 11 = .ok (.if_icmp .ne 10, 3) := by decide +kernel
theorem dX1_put_14 : decode cX1_put 14 = .ok (.lload_n 2, 1) := by decide +kernel
theorem dX1_put_15 : decode cX1_put 15 = .ok (.l2i, 1) := by decide +kernel
theorem dX1_put_16 : decode cX1_put 16 = .ok (.i2b, 1) := by decide +kernel
theorem dX1_put_17 : decode cX1_put 17 = .ok (.i2l, 1) := by decide +kernel
theorem dX1_put_18 : decode cX1_put 18 = .ok (.goto 20, 3) := by decide +kernel
theorem dX1_put_21 : decode cX1_put 21 = .ok (.aload_n 0, 1) := by decide +kernel
theorem dX1_put_22 : decode cX1_put 22 = .ok (.getfield 15, 3) := by decide +kernel
theorem dX1_put_25 : decode cX1_put 25 = .ok (.bipush 16, 2) := by decide +kernel
theorem dX1_put_27 : decode cX1_put 27 = .ok (.if_icmp .ne 10, 3) := by decide +kernel
theorem dX1_put_30 : decode cX1_put 30 = .ok (.lload_n 2, 1) := by decide +kernel
theorem dX1_put_31 : decode cX1_put 31 = .ok (.l2i, 1) := by decide +kernel
theorem dX1_put_32 : decode cX1_put 32 = .ok (.i2s, 1) := by decide +kernel
theorem dX1_put_33 : decode cX1_put 33 = .ok (.i2l, 1) := by decide +kernel
theorem dX1_put_34 : decode cX1_put 34 = .ok (.goto 4, 3) := by decide +kernel
theorem dX1_put_37 : decode cX1_put 37 = .ok (.lload_n 2, 1) := by decide +kernel
theorem dX1_put_38 : decode cX1_put 38 = .ok (.lastore, 1) := by decide +kernel
theorem dX1_put_39 : decode cX1_put 39 = .ok (.return_, 1) := by decide +kernel
theorem dX1_has_0 : decode cX1_has 0 = .ok (.iload_n 1, 1) := by decide +kernel
theorem dX1_has_1 : decode cX1_has 1 = .ok (.ifCond .lt 21, 3) := by decide +kernel
theorem dX1_has_4 : decode cX1_has 4 = .ok (.iload_n 2, 1) := by decide +kernel
theorem dX1_has_5 : decode cX1_has 5 = .ok (.ifCond .lt 17, 3) := by decide +kernel
theorem dX1_has_8 : decode cX1_has 8 = .ok (.iload_n 2, 1) := by decide +kernel
theorem dX1_has_9 : decode cX1_has 9 = .ok (.aload_n 0, 1) := by decide +kernel
theorem dX1_has_10 : decode cX1_has 10 = .ok (.getfield 19, 3) := by decide +kernel
theorem dX1_has_13 : decode cX1_has 13 = .ok (.iload_n 1, 1) := by decide +kernel
theorem dX1_has_14 : decode cX1_has 14 = .ok (.isub, 1) := by decide +kernel
theorem dX1_has_15 : decode cX1_has 15 = .ok (.if_icmp .gt 7, 3) := by decide +kernel
theorem dX1_has_18 : decode cX1_has 18 = .ok (.iconst 1, 1) := by decide +kernel
theorem dX1_has_19 : decode cX1_has 19 = .ok (.goto 4, 3) := by decide +kernel
theorem dX1_has_22 : decode cX1_has 22 = .ok (.iconst 0, 1) := by decide +kernel
theorem dX1_has_23 : decode cX1_has 23 = .ok (.ireturn, 1) := by decide +kernel
theorem dX2_init_0 : decode cX2_init 0 = .ok (.aload_n 0, 1) := by decide +kernel
theorem dX2_init_1 : decode cX2_init 1 = .ok (.invokespecial 3, 3) := by decide +kernel
theorem dX2_init_4 : decode cX2_init 4 = .ok (.aload_n 0, 1) := by decide +kernel
theorem dX2_init_5 : decode cX2_init 5 = .ok (.bipush 120, 2) := by decide +kernel
theorem dX2_init_7 : decode cX2_init 7 = .ok (.newarray .byte, 2) := by decide +kernel
theorem dX2_init_9 : decode cX2_init 9 = .ok (.putfield 9, 3) := by decide +kernel
theorem dX2_init_12 : decode cX2_init 12 = .ok (.aload_n 0, 1) := by decide +kernel
theorem dX2_init_13 : decode cX2_init 13 = .ok (.iconst 0, 1) := by decide +kernel
theorem dX2_init_14 : decode cX2_init 14 = .ok (.putfield 15, 3) := by decide +kernel
theorem dX2_init_17 : decode cX2_init 17 = .ok (.aload_n 0, 1) := by decide +kernel
theorem dX2_init_18 : decode cX2_init 18 = .ok (.iconst 0, 1) := by decide +kernel
theorem dX2_init_19 : decode cX2_init 19 = .ok (.putfield 19, 3) := by decide +kernel
theorem dX2_init_22 : decode cX2_init 22 = .ok (.aload_n 0, 1) := by decide +kernel
theorem dX2_init_23 : decode cX2_init 23 = .ok (.iconst 0, 1) := by decide +kernel
theorem dX2_init_24 : decode cX2_init 24 = .ok (.putfield 22, 3) := by decide +kernel
theorem dX2_init_27 : decode cX2_init 27 = .ok (.aload_n 0, 1) := by decide +kernel
theorem dX2_init_28 : decode cX2_init 28 = .ok (.iconst 0, 1) := by decide +kernel
theorem dX2_init_29 : decode cX2_init 29 = .ok (.putfield 25, 3) := by decide +kernel
theorem dX2_init_32 : decode cX2_init 32 = .ok (.aload_n 0, 1) := by decide +kernel
theorem dX2_init_33 : decode cX2_init 33 = .ok (.iconst 0, 1) := by decide +kernel
theorem dX2_init_34 : decode cX2_init 34 = .ok (.putfield 28, 3) := by decide +kernel
theorem dX2_init_37 : decode cX2_init 37 = .ok (.return_, 1) := by decide +kernel
theorem dX2_add_0 : decode cX2_add 0 = .ok (.aload_n 0, 1) := by decide +kernel
theorem dX2_add_1 : decode cX2_add 1 = .ok (.getfield 15, 3) := by decide +kernel
theorem dX2_add_4 : decode cX2_add 4 = .ok (.bipush 120, 2) := by decide +kernel
theorem dX2_add_6 : decode cX2_add 6 = .ok (.if_icmp .ge 23, 3) := by decide +kernel
theorem dX2_add_9 : decode cX2_add 9 = .ok (.aload_n 0, 1) := by decide +kernel
theorem dX2_add_10 : decode cX2_add 10 = .ok (.getfield 9, 3) := by decide +kernel
theorem dX2_add_13 : decode cX2_add 13 = .ok (.aload_n 0, 1) := by decide +kernel
theorem dX2_add_14 : decode cX2_add 14 = .ok (.getfield 15, 3) := by decide +kernel
theorem dX2_add_17 : decode cX2_add 17 = .ok (.iload_n 1, 1) := by decide +kernel
theorem dX2_add_18 : decode cX2_add 18 = .ok (.bastore, 1) := by decide +kernel
theorem dX2_add_19 : decode cX2_add 19 = .ok (.aload_n 0, 1) := by decide +kernel
theorem dX2_add_20 : decode cX2_add 20 = .ok (.dup, 1) := by decide +kernel
theorem dX2_add_21 : decode cX2_add 21 = .ok (.getfield 15, 3) := by decide +kernel
theorem dX2_add_24 : decode cX2_add 24 = .ok (.iconst 1, 1) := by decide +kernel
theorem dX2_add_25 : decode cX2_add 25 = .ok (.iadd, 1) := by decide +kernel
theorem dX2_add_26 : decode cX2_add 26 = .ok (.putfield 15, 3) := by decide +kernel
theorem dX2_add_29 : decode cX2_add 29 = .ok (.return_, 1) := by decide +kernel
theorem dX2_tellTo_0 : decode cX2_tellTo 0 = .ok (.aload_n 0, 1) := by decide +kernel
theorem dX2_tellTo_1 : decode cX2_tellTo 1 = .ok (.iconst 0, 1) := by decide +kernel
theorem dX2_tellTo_2 : decode cX2_tellTo 2 = .ok (.putfield 22, 3) := by decide +kernel
theorem dX2_tellTo_5 : decode cX2_tellTo 5 = .ok (.iconst 1, 1) := by decide +kernel
theorem dX2_tellTo_6 : decode cX2_tellTo 6 = .ok (.istore_n 2, 1) := by decide +kernel
theorem dX2_tellTo_7 : decode cX2_tellTo 7 = .ok (.iload_n 2, 1) := by decide +kernel
theorem dX2_tellTo_8 : decode cX2_tellTo 8 = .ok (.bipush 120, 2) := by decide +kernel
theorem dX2_tellTo_10 : decode cX2_tellTo 10 = .ok (.if_icmp .gt 52, 3) := by decide +kernel
theorem dX2_tellTo_13 : decode cX2_tellTo 13 = .ok (.aload_n 0, 1) := by decide +kernel
theorem dX2_tellTo_14 : decode cX2_tellTo 14 = .ok (.invokevirtual 31, 3) := by decide +kernel
theorem dX2_tellTo_17 : decode cX2_tellTo 17 = .ok (.aload_n 0, 1) := by decide +kernel
theorem dX2_tellTo_18 : decode cX2_tellTo 18 = .ok (.aload_n 1, 1) := by decide +kernel
theorem dX2_tellTo_19 : decode cX2_tellTo 19 = .ok (.invokevirtual 34, 3) := by decide +kernel
theorem dX2_tellTo_22 : decode cX2_tellTo 22 = .ok (.ifCond .ne 10, 3) := by decide +kernel
theorem dX2_tellTo_25 : decode cX2_tellTo 25 = .ok (.iconst (-1), 1) := by decide +kernel
theorem dX2_tellTo_26 : decode cX2_tellTo 26 = .ok (.aload_n 0, 1) := by decide +kernel
theorem dX2_tellTo_27 : decode cX2_tellTo 27 = .ok (.getfield 19, 3) := by decide +kernel
theorem dX2_tellTo_30 : decode cX2_tellTo 30 = .ok (.isub, 1) := by decide +kernel
theorem dX2_tellTo_31 : decode cX2_tellTo 31 = .ok (.ireturn, 1) := by decide +kernel
theorem dX2_tellTo_32 : decode cX2_tellTo 32 = .ok (.aload_n 0, 1) := by decide +kernel
theorem dX2_tellTo_33 : decode cX2_tellTo 33 = .ok (.getfield 25, 3) := by decide +kernel
theorem dX2_tellTo_36 : decode cX2_tellTo 36 = .ok (.ifCond .ne 5, 3) := by decide +kernel
theorem dX2_tellTo_39 : decode cX2_tellTo 39 = .ok (.iload_n 2, 1) := by decide +kernel
theorem dX2_tellTo_40 : decode cX2_tellTo 40 = .ok (.ireturn, 1) := by decide +kernel
theorem dX2_tellTo_41 : decode cX2_tellTo 41 = .ok (.aload_n 0, 1) := by decide +kernel
theorem dX2_tellTo_42 : decode cX2_tellTo 42 = .ok (.getfield 25, 3) := by decide +kernel
theorem dX2_tellTo_45 : decode cX2_tellTo 45 = .ok (.iconst 3, 1) := by decide +kernel
theorem dX2_tellTo_46 : decode cX2_tellTo 46 = .ok (.if_icmp .eq 10, 3) := by decide +kernel
theorem dX2_tellTo_49 : decode cX2_tellTo 49 = .ok (.iconst (-1), 1) := by decide +kernel
theorem dX2_tellTo_50 : decode cX2_tellTo 50 = .ok (.aload_n 0, 1) := by decide +kernel
theorem dX2_tellTo_51 : decode cX2_tellTo 51 = .ok (.getfield 19, 3) := by decide +kernel
theorem dX2_tellTo_54 : decode cX2_tellTo 54 = .ok (.isub, 1) := by decide +kernel
theorem dX2_tellTo_55 : decode cX2_tellTo 55 = .ok (.ireturn, 1) := by decide +kernel
theorem dX2_tellTo_56 : decode cX2_tellTo 56 = .ok (.iinc 2 1, 3) := by decide +kernel
theorem dX2_tellTo_59 : decode cX2_tellTo 59 = .ok (.goto (-52), 3) := by decide +kernel
theorem dX2_tellTo_62 : decode cX2_tellTo 62 = .ok (.iconst (-1), 1) := by decide +kernel
theorem dX2_tellTo_63 : decode cX2_tellTo 63 = .ok (.aload_n 0, 1) := by decide +kernel
theorem dX2_tellTo_64 : decode cX2_tellTo 64 = .ok (.getfield 19, 3) := by decide +kernel
theorem dX2_tellTo_67 : decode cX2_tellTo 67 = .ok (.isub, 1) := by decide +kernel
theorem dX2_tellTo_68 : decode cX2_tellTo 68 = .ok (.ireturn, 1) := by decide +kernel
theorem dX2_takeItem_0 : decode cX2_takeItem 0 = .ok (.aload_n 0, 1) := by decide +kernel
theorem dX2_takeItem_1 : decode cX2_takeItem 1 = .ok (.getfield 25, 3) := by decide +kernel
theorem dX2_takeItem_4 : decode cX2_takeItem 4 = .ok (.iconst 1, 1) := by decide +kernel
theorem dX2_takeItem_5 : decode cX2_takeItem 5 = .ok (.if_icmp .eq 5, 3) := by decide +kernel
theorem dX2_takeItem_8 : decode cX2_takeItem 8 = .ok (.iconst 0, 1) := by decide +kernel
theorem dX2_takeItem_9 : decode cX2_takeItem 9 = .ok (.ireturn, 1) := by decide +kernel
theorem dX2_takeItem_10 : decode cX2_takeItem 10 = .ok (.aload_n 0, 1) := by decide +kernel
theorem dX2_takeItem_11 : decode cX2_takeItem 11 = .ok (.ldc 38, 2) := by decide +kernel
theorem dX2_takeItem_13 : decode cX2_takeItem 13 = .ok (.invokevirtual 40, 3) := by decide +kernel
theorem dX2_takeItem_16 : decode cX2_takeItem 16 = .ok (.ifCond .eq 9, 3) := by decide +kernel
theorem dX2_takeItem_19 : decode cX2_takeItem 19 = .ok (.aload_n 0, 1) := by decide +kernel
theorem dX2_takeItem_20 : decode cX2_takeItem 20 = .ok (.aload_n 1, 1) := by decide +kernel
theorem dX2_takeItem_21 : decode cX2_takeItem 21 = .ok (.invokevirtual 44, 3) := by decide +kernel
theorem dX2_takeItem_24 : decode cX2_takeItem 24 = .ok (.ireturn, 1) := by decide +kernel
theorem dX2_takeItem_25 : decode cX2_takeItem 25 = .ok (.aload_n 0, 1) := by decide +kernel
theorem dX2_takeItem_26 : decode cX2_takeItem 26 = .ok (.ldc 47, 2) := by decide +kernel
theorem dX2_takeItem_28 : decode cX2_takeItem 28 = .ok (.invokevirtual 40, 3) := by decide +kernel
theorem dX2_takeItem_31 : decode cX2_takeItem 31 = .ok (.ifCond .eq 9, 3) := by decide +kernel
theorem dX2_takeItem_34 : decode cX2_takeItem 34 = .ok (.aload_n 0, 1) := by decide +kernel
theorem dX2_takeItem_35 : decode cX2_takeItem 35 = .ok (.aload_n 1, 1) := by decide +kernel
theorem dX2_takeItem_36 : decode cX2_takeItem 36 = .ok (.invokevirtual 49, 3) := by decide +kernel
theorem dX2_takeItem_39 : decode cX2_takeItem 39 = .ok (.ireturn, 1) := by decide +kernel
theorem dX2_takeItem_40 : decode cX2_takeItem 40 = .ok (.aload_n 0, 1) := by decide +kernel
theorem dX2_takeItem_41 : decode cX2_takeItem 41 = .ok (.ldc 52, 2) := by decide +kernel
theorem dX2_takeItem_43 : decode cX2_takeItem 43 = .ok (.invokevirtual 40, 3) := by decide +kernel
theorem dX2_takeItem_46 : decode cX2_takeItem 46 = .ok (.ifCond .eq 9, 3) := by decide +kernel
theorem dX2_takeItem_49 : decode cX2_takeItem 49 = .ok (.aload_n 0, 1) := by decide +kernel
theorem dX2_takeItem_50 : decode cX2_takeItem 50 = .ok (.aload_n 1, 1) := by decide +kernel
theorem dX2_takeItem_51 : decode cX2_takeItem 51 = .ok (.invokevirtual 54, 3) := by decide +kernel
theorem dX2_takeItem_54 : decode cX2_takeItem 54 = .ok (.ireturn, 1) := by decide +kernel
theorem dX2_takeItem_55 : decode cX2_takeItem 55 = .ok (.aload_n 0, 1) := by decide +kernel
theorem dX2_takeItem_56 : decode cX2_takeItem 56 = .ok (.aload_n 1, 1) := by decide +kernel
theorem dX2_takeItem_57 : decode cX2_takeItem 57 = .ok (.invokevirtual 57, 3) := by decide +kernel
theorem dX2_takeItem_60 : decode cX2_takeItem 60 = .ok (.ireturn, 1) := by decide +kernel
theorem dX2_takePerson_0 : decode cX2_takePerson 0 = .ok (.aload_n 0, 1) := by decide +kernel
theorem dX2_takePerson_1 : decode cX2_takePerson 1 = .ok (.invokevirtual 60, 3) := by decide +kernel
theorem dX2_takePerson_4 : decode cX2_takePerson 4 = .ok (.istore_n 2, 1) := by decide +kernel
theorem dX2_takePerson_5 : decode cX2_takePerson 5 = .ok (.iload_n 2, 1) := by decide +kernel
theorem dX2_takePerson_6 : decode cX2_takePerson 6 = .ok (.ifCond .lt 12, 3) := by decide +kernel
theorem dX2_takePerson_9 : decode cX2_takePerson 9 = .ok (.aload_n 1, 1) := by decide +kernel
theorem dX2_takePerson_10 : decode cX2_takePerson 10 = .ok (.getfield 64, 3) := by decide +kernel
theorem dX2_takePerson_13 : decode cX2_takePerson 13 = .ok (.bipush 8, 2) := by decide +kernel
theorem dX2_takePerson_15 : decode cX2_takePerson 15 = .ok (.if_icmp .lt 5, 3) := by decide +kernel
theorem dX2_takePerson_18 : decode cX2_takePerson 18 = .ok (.iconst 0, 1) := by decide +kernel
theorem dX2_takePerson_19 : decode cX2_takePerson 19 = .ok (.ireturn, 1) := by decide +kernel
theorem dX2_takePerson_20 : decode cX2_takePerson 20 = .ok (.aload_n 1, 1) := by decide +kernel
theorem dX2_takePerson_21 : decode cX2_takePerson 21 = .ok (.iload_n 2, 1) := by decide +kernel
theorem dX2_takePerson_22 : decode cX2_takePerson 22 = .ok (.bipush 60, 2) := by decide +kernel
theorem dX2_takePerson_24 : decode cX2_takePerson 24 = .ok (.invokevirtual 69, 3) := by decide +kernel
theorem dX2_takePerson_27 : decode cX2_takePerson 27 = .ok (.istore_n 3, 1) := by decide +kernel
theorem dX2_takePerson_28 : decode cX2_takePerson 28 = .ok (.aload_n 0, 1) := by decide +kernel
theorem dX2_takePerson_29 : decode cX2_takePerson 29 = .ok (.invokevirtual 31, 3) := by decide +kernel
theorem dX2_takePerson_32 : decode cX2_takePerson 32 = .ok (.aload_n 0, 1) := by decide +kernel
theorem dX2_takePerson_33 : decode cX2_takePerson 33 = .ok (.ldc 73, 2) := by decide +kernel
theorem dX2_takePerson_35 : decode cX2_takePerson 35 = .ok (.invokevirtual 40, 3) := by decide +kernel
theorem dX2_takePerson_38 : decode cX2_takePerson 38 = .ok (.ifCond .eq 32, 3) := by decide +kernel
theorem dX2_takePerson_41 : decode cX2_takePerson 41 = .ok (.aload_n 0, 1) := by decide +kernel
theorem dX2_takePerson_42 : decode cX2_takePerson 42 = .ok (.invokevirtual 31, 3) := by decide +kernel
theorem dX2_takePerson_45 : decode cX2_takePerson 45 = .ok (.aload_n 0, 1) := by decide +kernel
theorem dX2_takePerson_46 : decode cX2_takePerson 46 = .ok (.bipush 99, 2) := by decide +kernel
theorem dX2_takePerson_48 : decode cX2_takePerson 48 = .ok (.invokevirtual 75, 3) := by decide +kernel
theorem dX2_takePerson_51 : decode cX2_takePerson 51 = .ok (.ifCond .ne 5, 3) := by decide +kernel
theorem dX2_takePerson_54 : decode cX2_takePerson 54 = .ok (.iconst 0, 1) := by decide +kernel
theorem dX2_takePerson_55 : decode cX2_takePerson 55 = .ok (.ireturn, 1) := by decide +kernel
theorem dX2_takePerson_56 : decode cX2_takePerson 56 = .ok (.aload_n 1, 1) := by decide +kernel
theorem dX2_takePerson_57 : decode cX2_takePerson 57 = .ok (.getfield 79, 3) := by decide +kernel
theorem dX2_takePerson_60 : decode cX2_takePerson 60 = .ok (.iload_n 3, 1) := by decide +kernel
theorem dX2_takePerson_61 : decode cX2_takePerson 61 = .ok (.aload_n 0, 1) := by decide +kernel
theorem dX2_takePerson_62 : decode cX2_takePerson 62 = .ok (.getfield 28, 3) := by decide +kernel
theorem dX2_takePerson_65 : decode cX2_takePerson 65 = .ok (.iastore, 1) := by decide +kernel
theorem dX2_takePerson_66 : decode cX2_takePerson 66 = .ok (.aload_n 0, 1) := by decide +kernel
theorem dX2_takePerson_67 : decode cX2_takePerson 67 = .ok (.invokevirtual 31, 3) := by decide +kernel
theorem dX2_takePerson_70 : decode cX2_takePerson 70 = .ok (.iconst 1, 1) := by decide +kernel
theorem dX2_takePerson_71 : decode cX2_takePerson 71 = .ok (.ireturn, 1) := by decide +kernel
theorem dX2_takeCue_0 : decode cX2_takeCue 0 = .ok (.aload_n 0, 1) := by decide +kernel
theorem dX2_takeCue_1 : decode cX2_takeCue 1 = .ok (.invokevirtual 31, 3) := by decide +kernel
theorem dX2_takeCue_4 : decode cX2_takeCue 4 = .ok (.aload_n 0, 1) := by decide +kernel
theorem dX2_takeCue_5 : decode cX2_takeCue 5 = .ok (.bipush 15, 2) := by decide +kernel
theorem dX2_takeCue_7 : decode cX2_takeCue 7 = .ok (.invokevirtual 75, 3) := by decide +kernel
theorem dX2_takeCue_10 : decode cX2_takeCue 10 = .ok (.ifCond .ne 5, 3) := by decide +kernel
theorem dX2_takeCue_13 : decode cX2_takeCue 13 = .ok (.iconst 0, 1) := by decide +kernel
theorem dX2_takeCue_14 : decode cX2_takeCue 14 = .ok (.ireturn, 1) := by decide +kernel
theorem dX2_takeCue_15 : decode cX2_takeCue 15 = .ok (.aload_n 0, 1) := by decide +kernel
theorem dX2_takeCue_16 : decode cX2_takeCue 16 = .ok (.getfield 28, 3) := by decide +kernel
theorem dX2_takeCue_19 : decode cX2_takeCue 19 = .ok (.istore_n 2, 1) := by decide +kernel
theorem dX2_takeCue_20 : decode cX2_takeCue 20 = .ok (.aload_n 0, 1) := by decide +kernel
theorem dX2_takeCue_21 : decode cX2_takeCue 21 = .ok (.invokevirtual 31, 3) := by decide +kernel
theorem dX2_takeCue_24 : decode cX2_takeCue 24 = .ok (.aload_n 0, 1) := by decide +kernel
theorem dX2_takeCue_25 : decode cX2_takeCue 25 = .ok (.invokevirtual 83, 3) := by decide +kernel
theorem dX2_takeCue_28 : decode cX2_takeCue 28 = .ok (.istore_n 3, 1) := by decide +kernel
theorem dX2_takeCue_29 : decode cX2_takeCue 29 = .ok (.iload_n 3, 1) := by decide +kernel
theorem dX2_takeCue_30 : decode cX2_takeCue 30 = .ok (.ifCond .ge 5, 3) := by decide +kernel
theorem dX2_takeCue_33 : decode cX2_takeCue 33 = .ok (.iconst 0, 1) := by decide +kernel
theorem dX2_takeCue_34 : decode cX2_takeCue 34 = .ok (.ireturn, 1) := by decide +kernel
theorem dX2_takeCue_35 : decode cX2_takeCue 35 = .ok (.aload_n 1, 1) := by decide +kernel
theorem dX2_takeCue_36 : decode cX2_takeCue 36 = .ok (.getfield 86, 3) := by decide +kernel
theorem dX2_takeCue_39 : decode cX2_takeCue 39 = .ok (.iload_n 2, 1) := by decide +kernel
theorem dX2_takeCue_40 : decode cX2_takeCue 40 = .ok (.iload_n 3, 1) := by decide +kernel
theorem dX2_takeCue_41 : decode cX2_takeCue 41 = .ok (.iastore, 1) := by decide +kernel
theorem dX2_takeCue_42 : decode cX2_takeCue 42 = .ok (.aload_n 0, 1) := by decide +kernel
theorem dX2_takeCue_43 : decode cX2_takeCue 43 = .ok (.invokevirtual 31, 3) := by decide +kernel
theorem dX2_takeCue_46 : decode cX2_takeCue 46 = .ok (.iconst 1, 1) := by decide +kernel
theorem dX2_takeCue_47 : decode cX2_takeCue 47 = .ok (.ireturn, 1) := by decide +kernel
theorem dX2_takeTense_0 : decode cX2_takeTense 0 = .ok (.aload_n 0, 1) := by decide +kernel
theorem dX2_takeTense_1 : decode cX2_takeTense 1 = .ok (.invokevirtual 31, 3) := by decide +kernel
theorem dX2_takeTense_4 : decode cX2_takeTense 4 = .ok (.aload_n 0, 1) := by decide +kernel
theorem dX2_takeTense_5 : decode cX2_takeTense 5 = .ok (.bipush 15, 2) := by decide +kernel
theorem dX2_takeTense_7 : decode cX2_takeTense 7 = .ok (.invokevirtual 75, 3) := by decide +kernel
theorem dX2_takeTense_10 : decode cX2_takeTense 10 = .ok (.ifCond .ne 5, 3) := by decide +kernel
theorem dX2_takeTense_13 : decode cX2_takeTense 13 = .ok (.iconst 0, 1) := by decide +kernel
theorem dX2_takeTense_14 : decode cX2_takeTense 14 = .ok (.ireturn, 1) := by decide +kernel
theorem dX2_takeTense_15 : decode cX2_takeTense 15 = .ok (.aload_n 0, 1) := by decide +kernel
theorem dX2_takeTense_16 : decode cX2_takeTense 16 = .ok (.getfield 28, 3) := by decide +kernel
theorem dX2_takeTense_19 : decode cX2_takeTense 19 = .ok (.istore_n 2, 1) := by decide +kernel
theorem dX2_takeTense_20 : decode cX2_takeTense 20 = .ok (.aload_n 0, 1) := by decide +kernel
theorem dX2_takeTense_21 : decode cX2_takeTense 21 = .ok (.invokevirtual 31, 3) := by decide +kernel
theorem dX2_takeTense_24 : decode cX2_takeTense 24 = .ok (.aload_n 0, 1) := by decide +kernel
theorem dX2_takeTense_25 : decode cX2_takeTense 25 = .ok (.bipush 20, 2) := by decide +kernel
theorem dX2_takeTense_27 : decode cX2_takeTense 27 = .ok (.invokevirtual 75, 3) := by decide +kernel
theorem dX2_takeTense_30 : decode cX2_takeTense 30 = .ok (.ifCond .ne 5, 3) := by decide +kernel
theorem dX2_takeTense_33 : decode cX2_takeTense 33 = .ok (.iconst 0, 1) := by decide +kernel
theorem dX2_takeTense_34 : decode cX2_takeTense 34 = .ok (.ireturn, 1) := by decide +kernel
theorem dX2_takeTense_35 : decode cX2_takeTense 35 = .ok (.aload_n 1, 1) := by decide +kernel
theorem dX2_takeTense_36 : decode cX2_takeTense 36 = .ok (.getfield 89, 3) := by decide +kernel
theorem dX2_takeTense_39 : decode cX2_takeTense 39 = .ok (.iload_n 2, 1) := by decide +kernel
theorem dX2_takeTense_40 : decode cX2_takeTense 40 = .ok (.aload_n 0, 1) := by decide +kernel
theorem dX2_takeTense_41 : decode cX2_takeTense 41 = .ok (.getfield 28, 3) := by decide +kernel
theorem dX2_takeTense_44 : decode cX2_takeTense 44 = .ok (.iastore, 1) := by decide +kernel
theorem dX2_takeTense_45 : decode cX2_takeTense 45 = .ok (.aload_n 0, 1) := by decide +kernel
theorem dX2_takeTense_46 : decode cX2_takeTense 46 = .ok (.invokevirtual 31, 3) := by decide +kernel
theorem dX2_takeTense_49 : decode cX2_takeTense 49 = .ok (.iconst 1, 1) := by decide +kernel
theorem dX2_takeTense_50 : decode cX2_takeTense 50 = .ok (.ireturn, 1) := by decide +kernel
theorem dX2_takeSwap_0 : decode cX2_takeSwap 0 = .ok (.aload_n 0, 1) := by decide +kernel
theorem dX2_takeSwap_1 : decode cX2_takeSwap 1 = .ok (.invokevirtual 31, 3) := by decide +kernel
theorem dX2_takeSwap_4 : decode cX2_takeSwap 4 = .ok (.aload_n 0, 1) := by decide +kernel
theorem dX2_takeSwap_5 : decode cX2_takeSwap 5 = .ok (.aload_n 1, 1) := by decide +kernel
theorem dX2_takeSwap_6 : decode cX2_takeSwap 6 = .ok (.getfield 64, 3) := by decide +kernel
theorem dX2_takeSwap_9 : decode cX2_takeSwap 9 = .ok (.iconst 1, 1) := by decide +kernel
theorem dX2_takeSwap_10 : decode cX2_takeSwap 10 = .ok (.isub, 1) := by decide +kernel
theorem dX2_takeSwap_11 : decode cX2_takeSwap 11 = .ok (.invokevirtual 75, 3) := by decide +kernel
theorem dX2_takeSwap_14 : decode cX2_takeSwap 14 = .ok (.ifCond .ne 5, 3) := by decide +kernel
theorem dX2_takeSwap_17 : decode cX2_takeSwap 17 = .ok (.iconst 0, 1) := by decide +kernel
theorem dX2_takeSwap_18 : decode cX2_takeSwap 18 = .ok (.ireturn, 1) := by decide +kernel
theorem dX2_takeSwap_19 : decode cX2_takeSwap 19 = .ok (.aload_n 0, 1) := by decide +kernel
theorem dX2_takeSwap_20 : decode cX2_takeSwap 20 = .ok (.getfield 28, 3) := by decide +kernel
theorem dX2_takeSwap_23 : decode cX2_takeSwap 23 = .ok (.istore_n 2, 1) := by decide +kernel
theorem dX2_takeSwap_24 : decode cX2_takeSwap 24 = .ok (.aload_n 0, 1) := by decide +kernel
theorem dX2_takeSwap_25 : decode cX2_takeSwap 25 = .ok (.invokevirtual 31, 3) := by decide +kernel
theorem dX2_takeSwap_28 : decode cX2_takeSwap 28 = .ok (.aload_n 0, 1) := by decide +kernel
theorem dX2_takeSwap_29 : decode cX2_takeSwap 29 = .ok (.aload_n 1, 1) := by decide +kernel
theorem dX2_takeSwap_30 : decode cX2_takeSwap 30 = .ok (.getfield 64, 3) := by decide +kernel
theorem dX2_takeSwap_33 : decode cX2_takeSwap 33 = .ok (.iconst 1, 1) := by decide +kernel
theorem dX2_takeSwap_34 : decode cX2_takeSwap 34 = .ok (.isub, 1) := by decide +kernel
theorem dX2_takeSwap_35 : decode cX2_takeSwap 35 = .ok (.invokevirtual 75, 3) := by decide +kernel
theorem dX2_takeSwap_38 : decode cX2_takeSwap 38 = .ok (.ifCond .eq 11, 3) := by decide +kernel
theorem dX2_takeSwap_41 : decode cX2_takeSwap 41 = .ok (.aload_n 0, 1) := by decide +kernel
theorem dX2_takeSwap_42 : decode cX2_takeSwap 42 = .ok (.getfield 28, 3) := by decide +kernel
theorem dX2_takeSwap_45 : decode cX2_takeSwap 45 = .ok (.iload_n 2, 1) := by decide +kernel
theorem dX2_takeSwap_46 : decode cX2_takeSwap 46 = .ok (.if_icmp .ne 5, 3) := by decide +kernel
theorem dX2_takeSwap_49 : decode cX2_takeSwap 49 = .ok (.iconst 0, 1) := by decide +kernel
theorem dX2_takeSwap_50 : decode cX2_takeSwap 50 = .ok (.ireturn, 1) := by decide +kernel
theorem dX2_takeSwap_51 : decode cX2_takeSwap 51 = .ok (.aload_n 1, 1) := by decide +kernel
theorem dX2_takeSwap_52 : decode cX2_takeSwap 52 = .ok (.iload_n 2, 1) := by decide +kernel
theorem dX2_takeSwap_53 : decode cX2_takeSwap 53 = .ok (.aload_n 0, 1) := by decide +kernel
theorem dX2_takeSwap_54 : decode cX2_takeSwap 54 = .ok (.getfield 28, 3) := by decide +kernel
theorem dX2_takeSwap_57 : decode cX2_takeSwap 57 = .ok (.invokevirtual 92, 3) := by decide +kernel
theorem dX2_takeSwap_60 : decode cX2_takeSwap 60 = .ok (.aload_n 0, 1) := by decide +kernel
theorem dX2_takeSwap_61 : decode cX2_takeSwap 61 = .ok (.invokevirtual 31, 3) := by decide +kernel
theorem dX2_takeSwap_64 : decode cX2_takeSwap 64 = .ok (.iconst 1, 1) := by decide +kernel
theorem dX2_takeSwap_65 : decode cX2_takeSwap 65 = .ok (.ireturn, 1) := by decide +kernel
theorem dX2_kindNamed_0 : decode cX2_kindNamed 0 = .ok (.iconst 0, 1) := by decide +kernel
theorem dX2_kindNamed_1 : decode cX2_kindNamed 1 = .ok (.istore_n 1, 1) := by decide +kernel
theorem dX2_kindNamed_2 : decode cX2_kindNamed 2 = .ok (.iload_n 1, 1) := by decide +kernel
theorem dX2_kindNamed_3 : decode cX2_kindNamed 3 = .ok (.bipush 6, 2) := by decide +kernel
theorem dX2_kindNamed_5 : decode cX2_kindNamed 5 = .ok (.if_icmp .ge 22, 3) := by decide +kernel
theorem dX2_kindNamed_8 : decode cX2_kindNamed 8 = .ok (.aload_n 0, 1) := by decide +kernel
theorem dX2_kindNamed_9 : decode cX2_kindNamed 9 = .ok (.iload_n 1, 1) := by decide +kernel
theorem dX2_kindNamed_10 : decode cX2_kindNamed 10 = .ok (.invokestatic 96, 3) := by decide +kernel
theorem dX2_kindNamed_13 : decode cX2_kindNamed 13 = .ok (.invokevirtual 40, 3) := by decide +kernel
theorem dX2_kindNamed_16 : decode cX2_kindNamed 16 = .ok (.ifCond .eq 5, 3) := by decide +kernel
theorem dX2_kindNamed_19 : decode cX2_kindNamed 19 = .ok (.iload_n 1, 1) := by decide +kernel
theorem dX2_kindNamed_20 : decode cX2_kindNamed 20 = .ok (.ireturn, 1) := by decide +kernel
theorem dX2_kindNamed_21 : decode cX2_kindNamed 21 = .ok (.iinc 1 1, 3) := by decide +kernel
theorem dX2_kindNamed_24 : decode cX2_kindNamed 24 = .ok (.goto (-22), 3) := by decide +kernel
theorem dX2_kindNamed_27 : decode cX2_kindNamed 27 = .ok (.iconst (-1), 1) := by decide +kernel
theorem dX2_kindNamed_28 : decode cX2_kindNamed 28 = .ok (.ireturn, 1) := by decide +kernel
theorem dX2_cueNamed_0 : decode cX2_cueNamed 0 = .ok (.iconst 0, 1) := by decide +kernel
theorem dX2_cueNamed_1 : decode cX2_cueNamed 1 = .ok (.istore_n 1, 1) := by decide +kernel
theorem dX2_cueNamed_2 : decode cX2_cueNamed 2 = .ok (.iload_n 1, 1) := by decide +kernel
theorem dX2_cueNamed_3 : decode cX2_cueNamed 3 = .ok (.iconst 4, 1) := by decide +kernel
theorem dX2_cueNamed_4 : decode cX2_cueNamed 4 = .ok (.if_icmp .gt 22, 3) := by decide +kernel
theorem dX2_cueNamed_7 : decode cX2_cueNamed 7 = .ok (.aload_n 0, 1) := by decide +kernel
theorem dX2_cueNamed_8 : decode cX2_cueNamed 8 = .ok (.iload_n 1, 1) := by decide +kernel
theorem dX2_cueNamed_9 : decode cX2_cueNamed 9 = .ok (.invokestatic 100, 3) := by decide +kernel
theorem dX2_cueNamed_12 : decode cX2_cueNamed 12 = .ok (.invokevirtual 40, 3) := by decide +kernel
theorem dX2_cueNamed_15 : decode cX2_cueNamed 15 = .ok (.ifCond .eq 5, 3) := by decide +kernel
theorem dX2_cueNamed_18 : decode cX2_cueNamed 18 = .ok (.iload_n 1, 1) := by decide +kernel
theorem dX2_cueNamed_19 : decode cX2_cueNamed 19 = .ok (.ireturn, 1) := by decide +kernel
theorem dX2_cueNamed_20 : decode cX2_cueNamed 20 = .ok (.iinc 1 1, 3) := by decide +kernel
theorem dX2_cueNamed_23 : decode cX2_cueNamed 23 = .ok (.goto (-21), 3) := by decide +kernel
theorem dX2_cueNamed_26 : decode cX2_cueNamed 26 = .ok (.iconst (-1), 1) := by decide +kernel
theorem dX2_cueNamed_27 : decode cX2_cueNamed 27 = .ok (.ireturn, 1) := by decide +kernel
theorem dX2_nameOfKind_0 : decode cX2_nameOfKind 0 = .ok (.iload_n 0, 1) := by decide +kernel
theorem dX2_nameOfKind_1 : decode cX2_nameOfKind 1 = .ok (.tableswitch 50 1 5 #[35, 38, 41, 44, 47], 35) := by decide +kernel
theorem dX2_nameOfKind_36 : decode cX2_nameOfKind 36 = .ok (.ldc 103, 2) := by decide +kernel
theorem dX2_nameOfKind_38 : decode cX2_nameOfKind 38 = .ok (.areturn, 1) := by decide +kernel
theorem dX2_nameOfKind_39 : decode cX2_nameOfKind 39 = .ok (.ldc 105, 2) := by decide +kernel
theorem dX2_nameOfKind_41 : decode cX2_nameOfKind 41 = .ok (.areturn, 1) := by decide +kernel
theorem dX2_nameOfKind_42 : decode cX2_nameOfKind 42 = .ok (.ldc 107, 2) := by decide +kernel
theorem dX2_nameOfKind_44 : decode cX2_nameOfKind 44 = .ok (.areturn, 1) := by decide +kernel
theorem dX2_nameOfKind_45 : decode cX2_nameOfKind 45 = .ok (.ldc 109, 2) := by decide +kernel
theorem dX2_nameOfKind_47 : decode cX2_nameOfKind 47 = .ok (.areturn, 1) := by decide +kernel
theorem dX2_nameOfKind_48 : decode cX2_nameOfKind 48 = .ok (.ldc 111, 2) := by decide +kernel
theorem dX2_nameOfKind_50 : decode cX2_nameOfKind 50 = .ok (.areturn, 1) := by decide +kernel
theorem dX2_nameOfKind_51 : decode cX2_nameOfKind 51 = .ok (.ldc 113, 2) := by decide +kernel
theorem dX2_nameOfKind_53 : decode cX2_nameOfKind 53 = .ok (.areturn, 1) := by decide +kernel
theorem dX2_nameOfCue_0 : decode cX2_nameOfCue 0 = .ok (.iload_n 0, 1) := by decide +kernel
theorem dX2_nameOfCue_1 : decode cX2_nameOfCue 1 = .ok (.tableswitch 43 1 4 #[31, 34, 37, 40], 31) := by decide +kernel
theorem dX2_nameOfCue_32 : decode cX2_nameOfCue 32 = .ok (.ldc 115, 2) := by decide +kernel
theorem dX2_nameOfCue_34 : decode cX2_nameOfCue 34 = .ok (.areturn, 1) := by decide +kernel
theorem dX2_nameOfCue_35 : decode cX2_nameOfCue 35 = .ok (.ldc 117, 2) := by decide +kernel
theorem dX2_nameOfCue_37 : decode cX2_nameOfCue 37 = .ok (.areturn, 1) := by decide +kernel
theorem dX2_nameOfCue_38 : decode cX2_nameOfCue 38 = .ok (.ldc 119, 2) := by decide +kernel
theorem dX2_nameOfCue_40 : decode cX2_nameOfCue 40 = .ok (.areturn, 1) := by decide +kernel
theorem dX2_nameOfCue_41 : decode cX2_nameOfCue 41 = .ok (.ldc 121, 2) := by decide +kernel
theorem dX2_nameOfCue_43 : decode cX2_nameOfCue 43 = .ok (.areturn, 1) := by decide +kernel
theorem dX2_nameOfCue_44 : decode cX2_nameOfCue 44 = .ok (.ldc 123, 2) := by decide +kernel
theorem dX2_nameOfCue_46 : decode cX2_nameOfCue 46 = .ok (.areturn, 1) := by decide +kernel
theorem dX2_isNumberTo_0 : decode cX2_isNumberTo 0 = .ok (.aload_n 0, 1) := by decide +kernel
theorem dX2_isNumberTo_1 : decode cX2_isNumberTo 1 = .ok (.getfield 25, 3) := by decide +kernel
theorem dX2_isNumberTo_4 : decode cX2_isNumberTo 4 = .ok (.iconst 2, 1) := by decide +kernel
theorem dX2_isNumberTo_5 : decode cX2_isNumberTo 5 = .ok (.if_icmp .ne 15, 3) := by decide +kernel
theorem dX2_isNumberTo_8 : decode cX2_isNumberTo 8 = .ok (.aload_n 0, 1) := by decide +kernel
theorem dX2_isNumberTo_9 : decode cX2_isNumberTo 9 = .ok (.getfield 28, 3) := by decide +kernel
theorem dX2_isNumberTo_12 : decode cX2_isNumberTo 12 = .ok (.iload_n 1, 1) := by decide +kernel
theorem dX2_isNumberTo_13 : decode cX2_isNumberTo 13 = .ok (.if_icmp .gt 7, 3) := by decide +kernel
theorem dX2_isNumberTo_16 : decode cX2_isNumberTo 16 = .ok (.iconst 1, 1) := by decide +kernel
theorem dX2_isNumberTo_17 : decode cX2_isNumberTo 17 = .ok (.goto 4, 3) := by decide +kernel
theorem dX2_isNumberTo_20 : decode cX2_isNumberTo 20 = .ok (.iconst 0, 1) := by decide +kernel
theorem dX2_isNumberTo_21 : decode cX2_isNumberTo 21 = .ok (.ireturn, 1) := by decide +kernel
theorem dX2_isWord_0 : decode cX2_isWord 0 = .ok (.aload_n 0, 1) := by decide +kernel
theorem dX2_isWord_1 : decode cX2_isWord 1 = .ok (.getfield 25, 3) := by decide +kernel
theorem dX2_isWord_4 : decode cX2_isWord 4 = .ok (.iconst 1, 1) := by decide +kernel
theorem dX2_isWord_5 : decode cX2_isWord 5 = .ok (.if_icmp .ne 19, 3) := by decide +kernel
theorem dX2_isWord_8 : decode cX2_isWord 8 = .ok (.aload_n 0, 1) := by decide +kernel
theorem dX2_isWord_9 : decode cX2_isWord 9 = .ok (.getfield 22, 3) := by decide +kernel
theorem dX2_isWord_12 : decode cX2_isWord 12 = .ok (.aload_n 0, 1) := by decide +kernel
theorem dX2_isWord_13 : decode cX2_isWord 13 = .ok (.getfield 19, 3) := by decide +kernel
theorem dX2_isWord_16 : decode cX2_isWord 16 = .ok (.isub, 1) := by decide +kernel
theorem dX2_isWord_17 : decode cX2_isWord 17 = .ok (.aload_n 1, 1) := by decide +kernel
theorem dX2_isWord_18 : decode cX2_isWord 18 = .ok (.invokevirtual 125, 3) := by decide +kernel
theorem dX2_isWord_21 : decode cX2_isWord 21 = .ok (.if_icmp .eq 5, 3) := by decide +kernel
theorem dX2_isWord_24 : decode cX2_isWord 24 = .ok (.iconst 0, 1) := by decide +kernel
theorem dX2_isWord_25 : decode cX2_isWord 25 = .ok (.ireturn, 1) := by decide +kernel
theorem dX2_isWord_26 : decode cX2_isWord 26 = .ok (.iconst 0, 1) := by decide +kernel
theorem dX2_isWord_27 : decode cX2_isWord 27 = .ok (.istore_n 2, 1) := by decide +kernel
theorem dX2_isWord_28 : decode cX2_isWord 28 = .ok (.iload_n 2, 1) := by decide +kernel
theorem dX2_isWord_29 : decode cX2_isWord 29 = .ok (.aload_n 1, 1) := by decide +kernel
theorem dX2_isWord_30 : decode cX2_isWord 30 = .ok (.invokevirtual 125, 3) := by decide +kernel
theorem dX2_isWord_33 : decode cX2_isWord 33 = .ok (.if_icmp .ge 30, 3) := by decide +kernel
theorem dX2_isWord_36 : decode cX2_isWord 36 = .ok (.aload_n 0, 1) := by decide +kernel
theorem dX2_isWord_37 : decode cX2_isWord 37 = .ok (.getfield 9, 3) := by decide +kernel
theorem dX2_isWord_40 : decode cX2_isWord 40 = .ok (.aload_n 0, 1) := by decide +kernel
theorem dX2_isWord_41 : decode cX2_isWord 41 = .ok (.getfield 19, 3) := by decide +kernel
theorem dX2_isWord_44 : decode cX2_isWord 44 = .ok (.iload_n 2, 1) := by decide +kernel
theorem dX2_isWord_45 : decode cX2_isWord 45 = .ok (.iadd, 1) := by decide +kernel
theorem dX2_isWord_46 : decode cX2_isWord 46 = .ok (.baload, 1) := by decide +kernel
theorem dX2_isWord_47 : decode cX2_isWord 47 = .ok (.aload_n 1, 1) := by decide +kernel
theorem dX2_isWord_48 : decode cX2_isWord 48 = .ok (.iload_n 2, 1) := by decide +kernel
theorem dX2_isWord_49 : decode cX2_isWord 49 = .ok (.invokevirtual 129, 3) := by decide +kernel
theorem dX2_isWord_52 : decode cX2_isWord 52 = .ok (.if_icmp .eq 5, 3) := by decide +kernel
theorem dX2_isWord_55 : decode cX2_isWord 55 = .ok (.iconst 0, 1) := by decide +kernel
theorem dX2_isWord_56 : decode cX2_isWord 56 = .ok (.ireturn, 1) := by decide +kernel
theorem dX2_isWord_57 : decode cX2_isWord 57 = .ok (.iinc 2 1, 3) := by decide +kernel
theorem dX2_isWord_60 : decode cX2_isWord 60 = .ok (.goto (-32), 3) := by decide +kernel
theorem dX2_isWord_63 : decode cX2_isWord 63 = .ok (.iconst 1, 1) := by decide +kernel
theorem dX2_isWord_64 : decode cX2_isWord 64 = .ok (.ireturn, 1) := by decide +kernel
theorem dX2_take_0 : decode cX2_take 0 = .ok (.aload_n 0, 1) := by decide +kernel
theorem dX2_take_1 : decode cX2_take 1 = .ok (.aload_n 0, 1) := by decide +kernel
theorem dX2_take_2 : decode cX2_take 2 = .ok (.getfield 22, 3) := by decide +kernel
theorem dX2_take_5 : decode cX2_take 5 = .ok (.putfield 19, 3) := by decide +kernel
theorem dX2_take_8 : decode cX2_take 8 = .ok (.aload_n 0, 1) := by decide +kernel
theorem dX2_take_9 : decode cX2_take 9 = .ok (.getfield 19, 3) := by decide +kernel
theorem dX2_take_12 : decode cX2_take 12 = .ok (.aload_n 0, 1) := by decide +kernel
theorem dX2_take_13 : decode cX2_take 13 = .ok (.getfield 15, 3) := by decide +kernel
theorem dX2_take_16 : decode cX2_take 16 = .ok (.if_icmp .ge 30, 3) := by decide +kernel
theorem dX2_take_19 : decode cX2_take 19 = .ok (.aload_n 0, 1) := by decide +kernel
theorem dX2_take_20 : decode cX2_take 20 = .ok (.getfield 9, 3) := by decide +kernel
theorem dX2_take_23 : decode cX2_take 23 = .ok (.aload_n 0, 1) := by decide +kernel
theorem dX2_take_24 : decode cX2_take 24 = .ok (.getfield 19, 3) := by decide +kernel
theorem dX2_take_27 : decode cX2_take 27 = .ok (.baload, 1) := by decide +kernel
theorem dX2_take_28 : decode cX2_take 28 = .ok (.bipush 32, 2) := by decide +kernel
theorem dX2_take_30 : decode cX2_take 30 = .ok (.if_icmp .ne 16, 3) := by decide +kernel
theorem dX2_take_33 : decode cX2_take 33 = .ok (.aload_n 0, 1) := by decide +kernel
theorem dX2_take_34 : decode cX2_take 34 = .ok (.dup, 1) := by decide +kernel
theorem dX2_take_35 : decode cX2_take 35 = .ok (.getfield 19, 3) := by decide +kernel
theorem dX2_take_38 : decode cX2_take 38 = .ok (.iconst 1, 1) := by decide +kernel
theorem dX2_take_39 : decode cX2_take 39 = .ok (.iadd, 1) := by decide +kernel
theorem dX2_take_40 : decode cX2_take 40 = .ok (.putfield 19, 3) := by decide +kernel
theorem dX2_take_43 : decode cX2_take 43 = .ok (.goto (-35), 3) := by decide +kernel
theorem dX2_take_46 : decode cX2_take 46 = .ok (.aload_n 0, 1) := by decide +kernel
theorem dX2_take_47 : decode cX2_take 47 = .ok (.aload_n 0, 1) := by decide +kernel
theorem dX2_take_48 : decode cX2_take 48 = .ok (.getfield 19, 3) := by decide +kernel
theorem dX2_take_51 : decode cX2_take 51 = .ok (.putfield 22, 3) := by decide +kernel
theorem dX2_take_54 : decode cX2_take 54 = .ok (.aload_n 0, 1) := by decide +kernel
theorem dX2_take_55 : decode cX2_take 55 = .ok (.getfield 19, 3) := by decide +kernel
theorem dX2_take_58 : decode cX2_take 58 = .ok (.aload_n 0, 1) := by decide +kernel
theorem dX2_take_59 : decode cX2_take 59 = .ok (.getfield 15, 3) := by decide +kernel
theorem dX2_take_62 : decode cX2_take 62 = .ok (.if_icmp .lt 11, 3) := by decide +kernel
theorem dX2_take_65 : decode cX2_take 65 = .ok (.aload_n 0, 1) := by decide +kernel
theorem dX2_take_66 : decode cX2_take 66 = .ok (.iconst 0, 1) := by decide +kernel
theorem dX2_take_67 : decode cX2_take 67 = .ok (.putfield 25, 3) := by decide +kernel
theorem dX2_take_70 : decode cX2_take 70 = .ok (.goto 80, 3) := by decide +kernel
theorem dX2_take_73 : decode cX2_take 73 = .ok (.aload_n 0, 1) := by decide +kernel
theorem dX2_take_74 : decode cX2_take 74 = .ok (.getfield 9, 3) := by decide +kernel
theorem dX2_take_77 : decode cX2_take 77 = .ok (.aload_n 0, 1) := by decide +kernel
theorem dX2_take_78 : decode cX2_take 78 = .ok (.getfield 19, 3) := by decide +kernel
theorem dX2_take_81 : decode cX2_take 81 = .ok (.baload, 1) := by decide +kernel
theorem dX2_take_82 : decode cX2_take 82 = .ok (.invokestatic 133, 3) := by decide +kernel
theorem dX2_take_85 : decode cX2_take 85 = .ok (.ifCond .eq 10, 3) := by decide +kernel
theorem dX2_take_88 : decode cX2_take 88 = .ok (.aload_n 0, 1) := by decide +kernel
theorem dX2_take_89 : decode cX2_take 89 = .ok (.invokevirtual 137, 3) := by decide +kernel
theorem dX2_take_92 : decode cX2_take 92 = .ok (.goto 58, 3) := by decide +kernel
theorem dX2_take_95 : decode cX2_take 95 = .ok (.aload_n 0, 1) := by decide +kernel
theorem dX2_take_96 : decode cX2_take 96 = .ok (.getfield 9, 3) := by decide +kernel
theorem dX2_take_99 : decode cX2_take 99 = .ok (.aload_n 0, 1) := by decide +kernel
theorem dX2_take_100 : decode cX2_take 100 = .ok (.getfield 19, 3) := by decide +kernel
theorem dX2_take_103 : decode cX2_take 103 = .ok (.baload, 1) := by decide +kernel
theorem dX2_take_104 : decode cX2_take 104 = .ok (.invokestatic 140, 3) := by decide +kernel
theorem dX2_take_107 : decode cX2_take 107 = .ok (.ifCond .eq 10, 3) := by decide +kernel
theorem dX2_take_110 : decode cX2_take 110 = .ok (.aload_n 0, 1) := by decide +kernel
theorem dX2_take_111 : decode cX2_take 111 = .ok (.invokevirtual 143, 3) := by decide +kernel
theorem dX2_take_114 : decode cX2_take 114 = .ok (.goto 36, 3) := by decide +kernel
theorem dX2_take_117 : decode cX2_take 117 = .ok (.aload_n 0, 1) := by decide +kernel
theorem dX2_take_118 : decode cX2_take 118 = .ok (.aload_n 0, 1) := by decide +kernel
theorem dX2_take_119 : decode cX2_take 119 = .ok (.getfield 9, 3) := by decide +kernel
theorem dX2_take_122 : decode cX2_take 122 = .ok (.aload_n 0, 1) := by decide +kernel
theorem dX2_take_123 : decode cX2_take 123 = .ok (.getfield 19, 3) := by decide +kernel
theorem dX2_take_126 : decode cX2_take 126 = .ok (.baload, 1) := by decide +kernel
theorem dX2_take_127 : decode cX2_take 127 = .ok (.bipush 59, 2) := by decide +kernel
theorem dX2_take_129 : decode cX2_take 129 = .ok (.if_icmp .ne 7, 3) := by decide +kernel
theorem dX2_take_132 : decode cX2_take 132 = .ok (.iconst 3, 1) := by decide +kernel
theorem dX2_take_133 : decode cX2_take 133 = .ok (.goto 4, 3) := by decide +kernel
theorem dX2_take_136 : decode cX2_take 136 = .ok (.iconst 4, 1) := by decide +kernel
theorem dX2_take_137 : decode cX2_take 137 = .ok (.putfield 25, 3) := by decide +kernel
theorem dX2_take_140 : decode cX2_take 140 = .ok (.aload_n 0, 1) := by decide +kernel
theorem dX2_take_141 : decode cX2_take 141 = .ok (.dup, 1) := by decide +kernel
theorem dX2_take_142 : decode cX2_take 142 = .ok (.getfield 22, 3) := by decide +kernel
theorem dX2_take_145 : decode cX2_take 145 = .ok (.iconst 1, 1) := by decide +kernel
theorem dX2_take_146 : decode cX2_take 146 = .ok (.iadd, 1) := by decide +kernel
theorem dX2_take_147 : decode cX2_take 147 = .ok (.putfield 22, 3) := by decide +kernel
theorem dX2_take_150 : decode cX2_take 150 = .ok (.return_, 1) := by decide +kernel
theorem dX2_takeWord_0 : decode cX2_takeWord 0 = .ok (.aload_n 0, 1) := by decide +kernel
theorem dX2_takeWord_1 : decode cX2_takeWord 1 = .ok (.iconst 1, 1) := by decide +kernel
theorem dX2_takeWord_2 : decode cX2_takeWord 2 = .ok (.putfield 25, 3) := by decide +kernel
theorem dX2_takeWord_5 : decode cX2_takeWord 5 = .ok (.aload_n 0, 1) := by decide +kernel
theorem dX2_takeWord_6 : decode cX2_takeWord 6 = .ok (.getfield 22, 3) := by decide +kernel
theorem dX2_takeWord_9 : decode cX2_takeWord 9 = .ok (.aload_n 0, 1) := by decide +kernel
theorem dX2_takeWord_10 : decode cX2_takeWord 10 = .ok (.getfield 15, 3) := by decide +kernel
theorem dX2_takeWord_13 : decode cX2_takeWord 13 = .ok (.if_icmp .ge 31, 3) := by decide +kernel
theorem dX2_takeWord_16 : decode cX2_takeWord 16 = .ok (.aload_n 0, 1) := by decide +kernel
theorem dX2_takeWord_17 : decode cX2_takeWord 17 = .ok (.getfield 9, 3) := by decide +kernel
theorem dX2_takeWord_20 : decode cX2_takeWord 20 = .ok (.aload_n 0, 1) := by decide +kernel
theorem dX2_takeWord_21 : decode cX2_takeWord 21 = .ok (.getfield 22, 3) := by decide +kernel
theorem dX2_takeWord_24 : decode cX2_takeWord 24 = .ok (.baload, 1) := by decide +kernel
theorem dX2_takeWord_25 : decode cX2_takeWord 25 = .ok (.invokestatic 133, 3) := by decide +kernel
theorem dX2_takeWord_28 : decode cX2_takeWord 28 = .ok (.ifCond .eq 16, 3) := by decide +kernel
theorem dX2_takeWord_31 : decode cX2_takeWord 31 = .ok (.aload_n 0, 1) := by decide +kernel
theorem dX2_takeWord_32 : decode cX2_takeWord 32 = .ok (.dup, 1) := by decide +kernel
theorem dX2_takeWord_33 : decode cX2_takeWord 33 = .ok (.getfield 22, 3) := by decide +kernel
theorem dX2_takeWord_36 : decode cX2_takeWord 36 = .ok (.iconst 1, 1) := by decide +kernel
theorem dX2_takeWord_37 : decode cX2_takeWord 37 = .ok (.iadd, 1) := by decide +kernel
theorem dX2_takeWord_38 : decode cX2_takeWord 38 = .ok (.putfield 22, 3) := by decide +kernel
theorem dX2_takeWord_41 : decode cX2_takeWord 41 = .ok (.goto (-36), 3) := by decide +kernel
theorem dX2_takeWord_44 : decode cX2_takeWord 44 = .ok (.return_, 1) := by decide +kernel
theorem dX2_takeNumber_0 : decode cX2_takeNumber 0 = .ok (.aload_n 0, 1) := by decide +kernel
theorem dX2_takeNumber_1 : decode cX2_takeNumber 1 = .ok (.iconst 2, 1) := by decide +kernel
theorem dX2_takeNumber_2 : decode cX2_takeNumber 2 = .ok (.putfield 25, 3) := by decide +kernel
theorem dX2_takeNumber_5 : decode cX2_takeNumber 5 = .ok (.aload_n 0, 1) := by decide +kernel
theorem dX2_takeNumber_6 : decode cX2_takeNumber 6 = .ok (.iconst 0, 1) := by decide +kernel
theorem dX2_takeNumber_7 : decode cX2_takeNumber 7 = .ok (.putfield 28, 3) := by decide +kernel
theorem dX2_takeNumber_10 : decode cX2_takeNumber 10 = .ok (.aload_n 0, 1) := by decide +kernel
theorem dX2_takeNumber_11 : decode cX2_takeNumber 11 = .ok (.getfield 22, 3) := by decide +kernel
theorem dX2_takeNumber_14 : decode cX2_takeNumber 14 = .ok (.aload_n 0, 1) := by decide +kernel
theorem dX2_takeNumber_15 : decode cX2_takeNumber 15 = .ok (.getfield 15, 3) := by decide +kernel
theorem dX2_takeNumber_18 : decode cX2_takeNumber 18 = .ok (.if_icmp .ge 61, 3) := by decide +kernel
theorem dX2_takeNumber_21 : decode cX2_takeNumber 21 = .ok (.aload_n 0, 1) := by decide +kernel
theorem dX2_takeNumber_22 : decode cX2_takeNumber 22 = .ok (.getfield 9, 3) := by decide +kernel
theorem dX2_takeNumber_25 : decode cX2_takeNumber 25 = .ok (.aload_n 0, 1) := by decide +kernel
theorem dX2_takeNumber_26 : decode cX2_takeNumber 26 = .ok (.getfield 22, 3) := by decide +kernel
theorem dX2_takeNumber_29 : decode cX2_takeNumber 29 = .ok (.baload, 1) := by decide +kernel
theorem dX2_takeNumber_30 : decode cX2_takeNumber 30 = .ok (.invokestatic 140, 3) := by decide +kernel
theorem dX2_takeNumber_33 : decode cX2_takeNumber 33 = .ok (.ifCond .eq 46, 3) := by decide +kernel
theorem dX2_takeNumber_36 : decode cX2_takeNumber 36 = .ok (.aload_n 0, 1) := by decide +kernel
theorem dX2_takeNumber_37 : decode cX2_takeNumber 37 = .ok (.sipush 1000, 3) := by decide +kernel
theorem dX2_takeNumber_40 : decode cX2_takeNumber 40 = .ok (.aload_n 0, 1) := by decide +kernel
theorem dX2_takeNumber_41 : decode cX2_takeNumber 41 = .ok (.getfield 28, 3) := by decide +kernel
theorem dX2_takeNumber_44 : decode cX2_takeNumber 44 = .ok (.bipush 10, 2) := by decide +kernel
theorem dX2_takeNumber_46 : decode cX2_takeNumber 46 = .ok (.imul, 1) := by decide +kernel
theorem dX2_takeNumber_47 : decode cX2_takeNumber 47 = .ok (.aload_n 0, 1) := by decide +kernel
theorem dX2_takeNumber_48 : decode cX2_takeNumber 48 = .ok (.getfield 9, 3) := by decide +kernel
end
section
theorem dX2_takeNumber_51 : decode cX2_takeNumber 51 = .ok (.aload_n 0, 1) := by decide +kernel
theorem dX2_takeNumber_52 : decode cX2_takeNumber 52 = .ok (.getfield 22, 3) := by decide +kernel
theorem dX2_takeNumber_55 : decode cX2_takeNumber 55 = .ok (.baload, 1) := by decide +kernel
theorem dX2_takeNumber_56 : decode cX2_takeNumber 56 = .ok (.bipush 48, 2) := by decide +kernel
theorem dX2_takeNumber_58 : decode cX2_takeNumber 58 = .ok (.isub, 1) := by decide +kernel
theorem dX2_takeNumber_59 : decode cX2_takeNumber 59 = .ok (.iadd, 1) := by decide +kernel
theorem dX2_takeNumber_60 : decode cX2_takeNumber 60 = .ok (.invokestatic 146, 3) := by decide +kernel
theorem dX2_takeNumber_63 : decode cX2_takeNumber 63 = .ok (.putfield 28, 3) := by decide +kernel
theorem dX2_takeNumber_66 : decode cX2_takeNumber 66 = .ok (.aload_n 0, 1) := by decide +kernel
theorem dX2_takeNumber_67 : decode cX2_takeNumber 67 = .ok (.dup, 1) := by decide +kernel
theorem dX2_takeNumber_68 : decode cX2_takeNumber 68 = .ok (.getfield 22, 3) := by decide +kernel
theorem dX2_takeNumber_71 : decode cX2_takeNumber 71 = .ok (.iconst 1, 1) := by decide +kernel
theorem dX2_takeNumber_72 : decode cX2_takeNumber 72 = .ok (.iadd, 1) := by decide +kernel
theorem dX2_takeNumber_73 : decode cX2_takeNumber 73 = .ok (.putfield 22, 3) := by decide +kernel
theorem dX2_takeNumber_76 : decode cX2_takeNumber 76 = .ok (.goto (-66), 3) := by decide +kernel
theorem dX2_takeNumber_79 : decode cX2_takeNumber 79 = .ok (.return_, 1) := by decide +kernel
theorem dX2_isLetter_0 : decode cX2_isLetter 0 = .ok (.iload_n 0, 1) := by decide +kernel
theorem dX2_isLetter_1 : decode cX2_isLetter 1 = .ok (.bipush 97, 2) := by decide +kernel
theorem dX2_isLetter_3 : decode cX2_isLetter 3 = .ok (.if_icmp .lt 13, 3) := by decide +kernel
theorem dX2_isLetter_6 : decode cX2_isLetter 6 = .ok (.iload_n 0, 1) := by decide +kernel
theorem dX2_isLetter_7 : decode cX2_isLetter 7 = .ok (.bipush 122, 2) := by decide +kernel
theorem dX2_isLetter_9 : decode cX2_isLetter 9 = .ok (.if_icmp .gt 7, 3) := by decide +kernel
theorem dX2_isLetter_12 : decode cX2_isLetter 12 = .ok (.iconst 1, 1) := by decide +kernel
theorem dX2_isLetter_13 : decode cX2_isLetter 13 = .ok (.goto 4, 3) := by decide +kernel
theorem dX2_isLetter_16 : decode cX2_isLetter 16 = .ok (.iconst 0, 1) := by decide +kernel
theorem dX2_isLetter_17 : decode cX2_isLetter 17 = .ok (.ireturn, 1) := by decide +kernel
theorem dX2_isDigit_0 : decode cX2_isDigit 0 = .ok (.iload_n 0, 1) := by decide +kernel
theorem dX2_isDigit_1 : decode cX2_isDigit 1 = .ok (.bipush 48, 2) := by decide +kernel
theorem dX2_isDigit_3 : decode cX2_isDigit 3 = .ok (.if_icmp .lt 13, 3) := by decide +kernel
theorem dX2_isDigit_6 : decode cX2_isDigit 6 = .ok (.iload_n 0, 1) := by decide +kernel
theorem dX2_isDigit_7 : decode cX2_isDigit 7 = .ok (.bipush 57, 2) := by decide +kernel
theorem dX2_isDigit_9 : decode cX2_isDigit 9 = .ok (.if_icmp .gt 7, 3) := by decide +kernel
theorem dX2_isDigit_12 : decode cX2_isDigit 12 = .ok (.iconst 1, 1) := by decide +kernel
theorem dX2_isDigit_13 : decode cX2_isDigit 13 = .ok (.goto 4, 3) := by decide +kernel
theorem dX2_isDigit_16 : decode cX2_isDigit 16 = .ok (.iconst 0, 1) := by decide +kernel
theorem dX2_isDigit_17 : decode cX2_isDigit 17 = .ok (.ireturn, 1) := by decide +kernel
theorem dX3_init_0 : decode cX3_init 0 = .ok (.aload_n 0, 1) := by decide +kernel
theorem dX3_init_1 : decode cX3_init 1 = .ok (.invokespecial 3, 3) := by decide +kernel
theorem dX3_init_4 : decode cX3_init 4 = .ok (.aload_n 0, 1) := by decide +kernel
theorem dX3_init_5 : decode cX3_init 5 = .ok (.new 9, 3) := by decide +kernel
theorem dX3_init_8 : decode cX3_init 8 = .ok (.dup, 1) := by decide +kernel
theorem dX3_init_9 : decode cX3_init 9 = .ok (.invokespecial 11, 3) := by decide +kernel
theorem dX3_init_12 : decode cX3_init 12 = .ok (.putfield 12, 3) := by decide +kernel
theorem dX3_init_15 : decode cX3_init 15 = .ok (.aload_n 0, 1) := by decide +kernel
theorem dX3_init_16 : decode cX3_init 16 = .ok (.new 9, 3) := by decide +kernel
theorem dX3_init_19 : decode cX3_init 19 = .ok (.dup, 1) := by decide +kernel
theorem dX3_init_20 : decode cX3_init 20 = .ok (.invokespecial 11, 3) := by decide +kernel
theorem dX3_init_23 : decode cX3_init 23 = .ok (.putfield 16, 3) := by decide +kernel
theorem dX3_init_26 : decode cX3_init 26 = .ok (.aload_n 0, 1) := by decide +kernel
theorem dX3_init_27 : decode cX3_init 27 = .ok (.new 9, 3) := by decide +kernel
theorem dX3_init_30 : decode cX3_init 30 = .ok (.dup, 1) := by decide +kernel
theorem dX3_init_31 : decode cX3_init 31 = .ok (.invokespecial 11, 3) := by decide +kernel
theorem dX3_init_34 : decode cX3_init 34 = .ok (.putfield 19, 3) := by decide +kernel
theorem dX3_init_37 : decode cX3_init 37 = .ok (.aload_n 0, 1) := by decide +kernel
theorem dX3_init_38 : decode cX3_init 38 = .ok (.iconst 0, 1) := by decide +kernel
theorem dX3_init_39 : decode cX3_init 39 = .ok (.putfield 22, 3) := by decide +kernel
theorem dX3_init_42 : decode cX3_init 42 = .ok (.aload_n 0, 1) := by decide +kernel
theorem dX3_init_43 : decode cX3_init 43 = .ok (.new 26, 3) := by decide +kernel
theorem dX3_init_46 : decode cX3_init 46 = .ok (.dup, 1) := by decide +kernel
theorem dX3_init_47 : decode cX3_init 47 = .ok (.invokespecial 28, 3) := by decide +kernel
theorem dX3_init_50 : decode cX3_init 50 = .ok (.putfield 29, 3) := by decide +kernel
theorem dX3_init_53 : decode cX3_init 53 = .ok (.aload_n 0, 1) := by decide +kernel
theorem dX3_init_54 : decode cX3_init 54 = .ok (.iconst 4, 1) := by decide +kernel
theorem dX3_init_55 : decode cX3_init 55 = .ok (.anewarray 33, 3) := by decide +kernel
theorem dX3_init_58 : decode cX3_init 58 = .ok (.putfield 35, 3) := by decide +kernel
theorem dX3_init_61 : decode cX3_init 61 = .ok (.aload_n 0, 1) := by decide +kernel
theorem dX3_init_62 : decode cX3_init 62 = .ok (.bipush 7, 2) := by decide +kernel
theorem dX3_init_64 : decode cX3_init 64 = .ok (.newarray .int, 2) := by decide +kernel
theorem dX3_init_66 : decode cX3_init 66 = .ok (.putfield 39, 3) := by decide +kernel
theorem dX3_init_69 : decode cX3_init 69 = .ok (.iconst 0, 1) := by decide +kernel
theorem dX3_init_70 : decode cX3_init 70 = .ok (.istore_n 1, 1) := by decide +kernel
theorem dX3_init_71 : decode cX3_init 71 = .ok (.iload_n 1, 1) := by decide +kernel
theorem dX3_init_72 : decode cX3_init 72 = .ok (.iconst 4, 1) := by decide +kernel
theorem dX3_init_73 : decode cX3_init 73 = .ok (.if_icmp .ge 22, 3) := by decide +kernel
theorem dX3_init_76 : decode cX3_init 76 = .ok (.aload_n 0, 1) := by decide +kernel
theorem dX3_init_77 : decode cX3_init 77 = .ok (.getfield 35, 3) := by decide +kernel
theorem dX3_init_80 : decode cX3_init 80 = .ok (.iload_n 1, 1) := by decide +kernel
theorem dX3_init_81 : decode cX3_init 81 = .ok (.new 33, 3) := by decide +kernel
theorem dX3_init_84 : decode cX3_init 84 = .ok (.dup, 1) := by decide +kernel
theorem dX3_init_85 : decode cX3_init 85 = .ok (.invokespecial 43, 3) := by decide +kernel
theorem dX3_init_88 : decode cX3_init 88 = .ok (.aastore, 1) := by decide +kernel
theorem dX3_init_89 : decode cX3_init 89 = .ok (.iinc 1 1, 3) := by decide +kernel
theorem dX3_init_92 : decode cX3_init 92 = .ok (.goto (-21), 3) := by decide +kernel
theorem dX3_init_95 : decode cX3_init 95 = .ok (.return_, 1) := by decide +kernel
theorem dX3_play_0 : decode cX3_play 0 = .ok (.iload_n 1, 1) := by decide +kernel
theorem dX3_play_1 : decode cX3_play 1 = .ok (.iconst 0, 1) := by decide +kernel
theorem dX3_play_2 : decode cX3_play 2 = .ok (.bipush 15, 2) := by decide +kernel
theorem dX3_play_4 : decode cX3_play 4 = .ok (.invokestatic 44, 3) := by decide +kernel
theorem dX3_play_7 : decode cX3_play 7 = .ok (.ifCond .ne 10, 3) := by decide +kernel
theorem dX3_play_10 : decode cX3_play 10 = .ok (.aload_n 0, 1) := by decide +kernel
theorem dX3_play_11 : decode cX3_play 11 = .ok (.ldc 48, 2) := by decide +kernel
theorem dX3_play_13 : decode cX3_play 13 = .ok (.invokevirtual 49, 3) := by decide +kernel
theorem dX3_play_16 : decode cX3_play 16 = .ok (.ireturn, 1) := by decide +kernel
theorem dX3_play_17 : decode cX3_play 17 = .ok (.iload_n 2, 1) := by decide +kernel
theorem dX3_play_18 : decode cX3_play 18 = .ok (.ifCond .ne 36, 3) := by decide +kernel
theorem dX3_play_21 : decode cX3_play 21 = .ok (.iload_n 3, 1) := by decide +kernel
theorem dX3_play_22 : decode cX3_play 22 = .ok (.iconst 0, 1) := by decide +kernel
theorem dX3_play_23 : decode cX3_play 23 = .ok (.iconst 4, 1) := by decide +kernel
theorem dX3_play_24 : decode cX3_play 24 = .ok (.invokestatic 44, 3) := by decide +kernel
theorem dX3_play_27 : decode cX3_play 27 = .ok (.ifCond .eq 27, 3) := by decide +kernel
theorem dX3_play_30 : decode cX3_play 30 = .ok (.aload_n 0, 1) := by decide +kernel
theorem dX3_play_31 : decode cX3_play 31 = .ok (.getfield 12, 3) := by decide +kernel
theorem dX3_play_34 : decode cX3_play 34 = .ok (.getfield 53, 3) := by decide +kernel
theorem dX3_play_37 : decode cX3_play 37 = .ok (.iload_n 1, 1) := by decide +kernel
theorem dX3_play_38 : decode cX3_play 38 = .ok (.iaload, 1) := by decide +kernel
theorem dX3_play_39 : decode cX3_play 39 = .ok (.istore 4, 2) := by decide +kernel
theorem dX3_play_41 : decode cX3_play 41 = .ok (.aload_n 0, 1) := by decide +kernel
theorem dX3_play_42 : decode cX3_play 42 = .ok (.getfield 12, 3) := by decide +kernel
theorem dX3_play_45 : decode cX3_play 45 = .ok (.getfield 53, 3) := by decide +kernel
theorem dX3_play_48 : decode cX3_play 48 = .ok (.iload_n 1, 1) := by decide +kernel
theorem dX3_play_49 : decode cX3_play 49 = .ok (.iload_n 3, 1) := by decide +kernel
theorem dX3_play_50 : decode cX3_play 50 = .ok (.iastore, 1) := by decide +kernel
theorem dX3_play_51 : decode cX3_play 51 = .ok (.iload 4, 2) := by decide +kernel
theorem dX3_play_53 : decode cX3_play 53 = .ok (.ireturn, 1) := by decide +kernel
theorem dX3_play_54 : decode cX3_play 54 = .ok (.iload_n 2, 1) := by decide +kernel
theorem dX3_play_55 : decode cX3_play 55 = .ok (.iconst 1, 1) := by decide +kernel
theorem dX3_play_56 : decode cX3_play 56 = .ok (.if_icmp .ne 37, 3) := by decide +kernel
theorem dX3_play_59 : decode cX3_play 59 = .ok (.iload_n 3, 1) := by decide +kernel
theorem dX3_play_60 : decode cX3_play 60 = .ok (.iconst 0, 1) := by decide +kernel
theorem dX3_play_61 : decode cX3_play 61 = .ok (.bipush 20, 2) := by decide +kernel
theorem dX3_play_63 : decode cX3_play 63 = .ok (.invokestatic 44, 3) := by decide +kernel
theorem dX3_play_66 : decode cX3_play 66 = .ok (.ifCond .eq 27, 3) := by decide +kernel
theorem dX3_play_69 : decode cX3_play 69 = .ok (.aload_n 0, 1) := by decide +kernel
theorem dX3_play_70 : decode cX3_play 70 = .ok (.getfield 12, 3) := by decide +kernel
theorem dX3_play_73 : decode cX3_play 73 = .ok (.getfield 56, 3) := by decide +kernel
theorem dX3_play_76 : decode cX3_play 76 = .ok (.iload_n 1, 1) := by decide +kernel
theorem dX3_play_77 : decode cX3_play 77 = .ok (.iaload, 1) := by decide +kernel
theorem dX3_play_78 : decode cX3_play 78 = .ok (.istore 4, 2) := by decide +kernel
theorem dX3_play_80 : decode cX3_play 80 = .ok (.aload_n 0, 1) := by decide +kernel
theorem dX3_play_81 : decode cX3_play 81 = .ok (.getfield 12, 3) := by decide +kernel
theorem dX3_play_84 : decode cX3_play 84 = .ok (.getfield 56, 3) := by decide +kernel
theorem dX3_play_87 : decode cX3_play 87 = .ok (.iload_n 1, 1) := by decide +kernel
theorem dX3_play_88 : decode cX3_play 88 = .ok (.iload_n 3, 1) := by decide +kernel
theorem dX3_play_89 : decode cX3_play 89 = .ok (.iastore, 1) := by decide +kernel
theorem dX3_play_90 : decode cX3_play 90 = .ok (.iload 4, 2) := by decide +kernel
theorem dX3_play_92 : decode cX3_play 92 = .ok (.ireturn, 1) := by decide +kernel
theorem dX3_play_93 : decode cX3_play 93 = .ok (.aload_n 0, 1) := by decide +kernel
theorem dX3_play_94 : decode cX3_play 94 = .ok (.ldc 48, 2) := by decide +kernel
theorem dX3_play_96 : decode cX3_play 96 = .ok (.invokevirtual 49, 3) := by decide +kernel
theorem dX3_play_99 : decode cX3_play 99 = .ok (.ireturn, 1) := by decide +kernel
theorem dX3_now_0 : decode cX3_now 0 = .ok (.iload_n 1, 1) := by decide +kernel
theorem dX3_now_1 : decode cX3_now 1 = .ok (.tableswitch 119 0 6 #[43, 51, 59, 75, 91, 103, 111], 43) := by decide +kernel
theorem dX3_now_44 : decode cX3_now 44 = .ok (.aload_n 0, 1) := by decide +kernel
theorem dX3_now_45 : decode cX3_now 45 = .ok (.getfield 12, 3) := by decide +kernel
theorem dX3_now_48 : decode cX3_now 48 = .ok (.getfield 59, 3) := by decide +kernel
theorem dX3_now_51 : decode cX3_now 51 = .ok (.ireturn, 1) := by decide +kernel
theorem dX3_now_52 : decode cX3_now 52 = .ok (.aload_n 0, 1) := by decide +kernel
theorem dX3_now_53 : decode cX3_now 53 = .ok (.getfield 12, 3) := by decide +kernel
theorem dX3_now_56 : decode cX3_now 56 = .ok (.getfield 63, 3) := by decide +kernel
theorem dX3_now_59 : decode cX3_now 59 = .ok (.ireturn, 1) := by decide +kernel
theorem dX3_now_60 : decode cX3_now 60 = .ok (.aload_n 0, 1) := by decide +kernel
theorem dX3_now_61 : decode cX3_now 61 = .ok (.getfield 12, 3) := by decide +kernel
theorem dX3_now_64 : decode cX3_now 64 = .ok (.getfield 53, 3) := by decide +kernel
theorem dX3_now_67 : decode cX3_now 67 = .ok (.aload_n 0, 1) := by decide +kernel
theorem dX3_now_68 : decode cX3_now 68 = .ok (.getfield 12, 3) := by decide +kernel
theorem dX3_now_71 : decode cX3_now 71 = .ok (.getfield 63, 3) := by decide +kernel
theorem dX3_now_74 : decode cX3_now 74 = .ok (.iaload, 1) := by decide +kernel
theorem dX3_now_75 : decode cX3_now 75 = .ok (.ireturn, 1) := by decide +kernel
theorem dX3_now_76 : decode cX3_now 76 = .ok (.aload_n 0, 1) := by decide +kernel
theorem dX3_now_77 : decode cX3_now 77 = .ok (.getfield 12, 3) := by decide +kernel
theorem dX3_now_80 : decode cX3_now 80 = .ok (.getfield 56, 3) := by decide +kernel
theorem dX3_now_83 : decode cX3_now 83 = .ok (.aload_n 0, 1) := by decide +kernel
theorem dX3_now_84 : decode cX3_now 84 = .ok (.getfield 12, 3) := by decide +kernel
theorem dX3_now_87 : decode cX3_now 87 = .ok (.getfield 63, 3) := by decide +kernel
theorem dX3_now_90 : decode cX3_now 90 = .ok (.iaload, 1) := by decide +kernel
theorem dX3_now_91 : decode cX3_now 91 = .ok (.ireturn, 1) := by decide +kernel
theorem dX3_now_92 : decode cX3_now 92 = .ok (.sipush 10000, 3) := by decide +kernel
theorem dX3_now_95 : decode cX3_now 95 = .ok (.aload_n 0, 1) := by decide +kernel
theorem dX3_now_96 : decode cX3_now 96 = .ok (.getfield 12, 3) := by decide +kernel
theorem dX3_now_99 : decode cX3_now 99 = .ok (.invokevirtual 66, 3) := by decide +kernel
theorem dX3_now_102 : decode cX3_now 102 = .ok (.iadd, 1) := by decide +kernel
theorem dX3_now_103 : decode cX3_now 103 = .ok (.ireturn, 1) := by decide +kernel
theorem dX3_now_104 : decode cX3_now 104 = .ok (.aload_n 0, 1) := by decide +kernel
theorem dX3_now_105 : decode cX3_now 105 = .ok (.getfield 12, 3) := by decide +kernel
theorem dX3_now_108 : decode cX3_now 108 = .ok (.invokevirtual 70, 3) := by decide +kernel
theorem dX3_now_111 : decode cX3_now 111 = .ok (.ireturn, 1) := by decide +kernel
theorem dX3_now_112 : decode cX3_now 112 = .ok (.aload_n 0, 1) := by decide +kernel
theorem dX3_now_113 : decode cX3_now 113 = .ok (.getfield 12, 3) := by decide +kernel
theorem dX3_now_116 : decode cX3_now 116 = .ok (.invokevirtual 73, 3) := by decide +kernel
theorem dX3_now_119 : decode cX3_now 119 = .ok (.ireturn, 1) := by decide +kernel
theorem dX3_now_120 : decode cX3_now 120 = .ok (.aload_n 0, 1) := by decide +kernel
theorem dX3_now_121 : decode cX3_now 121 = .ok (.ldc 48, 2) := by decide +kernel
theorem dX3_now_123 : decode cX3_now 123 = .ok (.invokevirtual 49, 3) := by decide +kernel
theorem dX3_now_126 : decode cX3_now 126 = .ok (.ireturn, 1) := by decide +kernel
theorem dX3_person_0 : decode cX3_person 0 = .ok (.iload_n 1, 1) := by decide +kernel
theorem dX3_person_1 : decode cX3_person 1 = .ok (.iconst 0, 1) := by decide +kernel
theorem dX3_person_2 : decode cX3_person 2 = .ok (.iconst 5, 1) := by decide +kernel
theorem dX3_person_3 : decode cX3_person 3 = .ok (.invokestatic 44, 3) := by decide +kernel
theorem dX3_person_6 : decode cX3_person 6 = .ok (.ifCond .ne 10, 3) := by decide +kernel
theorem dX3_person_9 : decode cX3_person 9 = .ok (.aload_n 0, 1) := by decide +kernel
theorem dX3_person_10 : decode cX3_person 10 = .ok (.ldc 48, 2) := by decide +kernel
theorem dX3_person_12 : decode cX3_person 12 = .ok (.invokevirtual 49, 3) := by decide +kernel
theorem dX3_person_15 : decode cX3_person 15 = .ok (.ireturn, 1) := by decide +kernel
theorem dX3_person_16 : decode cX3_person 16 = .ok (.aload_n 0, 1) := by decide +kernel
theorem dX3_person_17 : decode cX3_person 17 = .ok (.getfield 12, 3) := by decide +kernel
theorem dX3_person_20 : decode cX3_person 20 = .ok (.getfield 76, 3) := by decide +kernel
theorem dX3_person_23 : decode cX3_person 23 = .ok (.bipush 8, 2) := by decide +kernel
theorem dX3_person_25 : decode cX3_person 25 = .ok (.if_icmp .lt 10, 3) := by decide +kernel
theorem dX3_person_28 : decode cX3_person 28 = .ok (.aload_n 0, 1) := by decide +kernel
theorem dX3_person_29 : decode cX3_person 29 = .ok (.ldc 79, 2) := by decide +kernel
theorem dX3_person_31 : decode cX3_person 31 = .ok (.invokevirtual 49, 3) := by decide +kernel
theorem dX3_person_34 : decode cX3_person 34 = .ok (.ireturn, 1) := by decide +kernel
theorem dX3_person_35 : decode cX3_person 35 = .ok (.aload_n 0, 1) := by decide +kernel
theorem dX3_person_36 : decode cX3_person 36 = .ok (.getfield 12, 3) := by decide +kernel
theorem dX3_person_39 : decode cX3_person 39 = .ok (.iload_n 1, 1) := by decide +kernel
theorem dX3_person_40 : decode cX3_person 40 = .ok (.bipush 60, 2) := by decide +kernel
theorem dX3_person_42 : decode cX3_person 42 = .ok (.invokevirtual 80, 3) := by decide +kernel
theorem dX3_person_45 : decode cX3_person 45 = .ok (.ireturn, 1) := by decide +kernel
theorem dX3_of_0 : decode cX3_of 0 = .ok (.aload_n 0, 1) := by decide +kernel
theorem dX3_of_1 : decode cX3_of 1 = .ok (.iload_n 1, 1) := by decide +kernel
theorem dX3_of_2 : decode cX3_of 2 = .ok (.invokevirtual 84, 3) := by decide +kernel
theorem dX3_of_5 : decode cX3_of 5 = .ok (.ifCond .ne 10, 3) := by decide +kernel
theorem dX3_of_8 : decode cX3_of 8 = .ok (.aload_n 0, 1) := by decide +kernel
theorem dX3_of_9 : decode cX3_of 9 = .ok (.ldc 48, 2) := by decide +kernel
theorem dX3_of_11 : decode cX3_of 11 = .ok (.invokevirtual 49, 3) := by decide +kernel
theorem dX3_of_14 : decode cX3_of 14 = .ok (.ireturn, 1) := by decide +kernel
theorem dX3_of_15 : decode cX3_of 15 = .ok (.iload_n 2, 1) := by decide +kernel
theorem dX3_of_16 : decode cX3_of 16 = .ok (.tableswitch 109 0 5 #[40, 50, 60, 74, 84, 93], 40) := by decide +kernel
theorem dX3_of_56 : decode cX3_of 56 = .ok (.aload_n 0, 1) := by decide +kernel
theorem dX3_of_57 : decode cX3_of 57 = .ok (.getfield 12, 3) := by decide +kernel
theorem dX3_of_60 : decode cX3_of 60 = .ok (.getfield 88, 3) := by decide +kernel
theorem dX3_of_63 : decode cX3_of 63 = .ok (.iload_n 1, 1) := by decide +kernel
theorem dX3_of_64 : decode cX3_of 64 = .ok (.iaload, 1) := by decide +kernel
theorem dX3_of_65 : decode cX3_of 65 = .ok (.ireturn, 1) := by decide +kernel
theorem dX3_of_66 : decode cX3_of 66 = .ok (.aload_n 0, 1) := by decide +kernel
theorem dX3_of_67 : decode cX3_of 67 = .ok (.getfield 12, 3) := by decide +kernel
theorem dX3_of_70 : decode cX3_of 70 = .ok (.getfield 91, 3) := by decide +kernel
theorem dX3_of_73 : decode cX3_of 73 = .ok (.iload_n 1, 1) := by decide +kernel
theorem dX3_of_74 : decode cX3_of 74 = .ok (.iaload, 1) := by decide +kernel
theorem dX3_of_75 : decode cX3_of 75 = .ok (.ireturn, 1) := by decide +kernel
theorem dX3_of_76 : decode cX3_of 76 = .ok (.sipush 10000, 3) := by decide +kernel
theorem dX3_of_79 : decode cX3_of 79 = .ok (.aload_n 0, 1) := by decide +kernel
theorem dX3_of_80 : decode cX3_of 80 = .ok (.getfield 12, 3) := by decide +kernel
theorem dX3_of_83 : decode cX3_of 83 = .ok (.getfield 94, 3) := by decide +kernel
theorem dX3_of_86 : decode cX3_of 86 = .ok (.iload_n 1, 1) := by decide +kernel
theorem dX3_of_87 : decode cX3_of 87 = .ok (.iaload, 1) := by decide +kernel
theorem dX3_of_88 : decode cX3_of 88 = .ok (.iadd, 1) := by decide +kernel
theorem dX3_of_89 : decode cX3_of 89 = .ok (.ireturn, 1) := by decide +kernel
theorem dX3_of_90 : decode cX3_of 90 = .ok (.aload_n 0, 1) := by decide +kernel
theorem dX3_of_91 : decode cX3_of 91 = .ok (.getfield 12, 3) := by decide +kernel
theorem dX3_of_94 : decode cX3_of 94 = .ok (.getfield 97, 3) := by decide +kernel
theorem dX3_of_97 : decode cX3_of 97 = .ok (.iload_n 1, 1) := by decide +kernel
theorem dX3_of_98 : decode cX3_of 98 = .ok (.iaload, 1) := by decide +kernel
theorem dX3_of_99 : decode cX3_of 99 = .ok (.ireturn, 1) := by decide +kernel
theorem dX3_of_100 : decode cX3_of 100 = .ok (.aload_n 0, 1) := by decide +kernel
theorem dX3_of_101 : decode cX3_of 101 = .ok (.getfield 12, 3) := by decide +kernel
theorem dX3_of_104 : decode cX3_of 104 = .ok (.iload_n 1, 1) := by decide +kernel
theorem dX3_of_105 : decode cX3_of 105 = .ok (.invokevirtual 100, 3) := by decide +kernel
theorem dX3_of_108 : decode cX3_of 108 = .ok (.ireturn, 1) := by decide +kernel
theorem dX3_of_109 : decode cX3_of 109 = .ok (.bipush 100, 2) := by decide +kernel
theorem dX3_of_111 : decode cX3_of 111 = .ok (.aload_n 0, 1) := by decide +kernel
theorem dX3_of_112 : decode cX3_of 112 = .ok (.getfield 12, 3) := by decide +kernel
theorem dX3_of_115 : decode cX3_of 115 = .ok (.getfield 88, 3) := by decide +kernel
theorem dX3_of_118 : decode cX3_of 118 = .ok (.iload_n 1, 1) := by decide +kernel
theorem dX3_of_119 : decode cX3_of 119 = .ok (.iaload, 1) := by decide +kernel
theorem dX3_of_120 : decode cX3_of 120 = .ok (.invokestatic 103, 3) := by decide +kernel
theorem dX3_of_123 : decode cX3_of 123 = .ok (.iadd, 1) := by decide +kernel
theorem dX3_of_124 : decode cX3_of 124 = .ok (.ireturn, 1) := by decide +kernel
theorem dX3_of_125 : decode cX3_of 125 = .ok (.aload_n 0, 1) := by decide +kernel
theorem dX3_of_126 : decode cX3_of 126 = .ok (.ldc 48, 2) := by decide +kernel
theorem dX3_of_128 : decode cX3_of 128 = .ok (.invokevirtual 49, 3) := by decide +kernel
theorem dX3_of_131 : decode cX3_of 131 = .ok (.ireturn, 1) := by decide +kernel
theorem dX3_scores_0 : decode cX3_scores 0 = .ok (.aload_n 0, 1) := by decide +kernel
theorem dX3_scores_1 : decode cX3_scores 1 = .ok (.iload_n 1, 1) := by decide +kernel
theorem dX3_scores_2 : decode cX3_scores 2 = .ok (.invokevirtual 84, 3) := by decide +kernel
theorem dX3_scores_5 : decode cX3_scores 5 = .ok (.ifCond .eq 21, 3) := by decide +kernel
theorem dX3_scores_8 : decode cX3_scores 8 = .ok (.iload_n 2, 1) := by decide +kernel
theorem dX3_scores_9 : decode cX3_scores 9 = .ok (.iconst 0, 1) := by decide +kernel
theorem dX3_scores_10 : decode cX3_scores 10 = .ok (.iconst 4, 1) := by decide +kernel
theorem dX3_scores_11 : decode cX3_scores 11 = .ok (.invokestatic 44, 3) := by decide +kernel
theorem dX3_scores_14 : decode cX3_scores 14 = .ok (.ifCond .eq 12, 3) := by decide +kernel
theorem dX3_scores_17 : decode cX3_scores 17 = .ok (.iload_n 3, 1) := by decide +kernel
theorem dX3_scores_18 : decode cX3_scores 18 = .ok (.iconst 0, 1) := by decide +kernel
theorem dX3_scores_19 : decode cX3_scores 19 = .ok (.iconst 4, 1) := by decide +kernel
theorem dX3_scores_20 : decode cX3_scores 20 = .ok (.invokestatic 44, 3) := by decide +kernel
theorem dX3_scores_23 : decode cX3_scores 23 = .ok (.ifCond .ne 10, 3) := by decide +kernel
theorem dX3_scores_26 : decode cX3_scores 26 = .ok (.aload_n 0, 1) := by decide +kernel
theorem dX3_scores_27 : decode cX3_scores 27 = .ok (.ldc 48, 2) := by decide +kernel
theorem dX3_scores_29 : decode cX3_scores 29 = .ok (.invokevirtual 49, 3) := by decide +kernel
theorem dX3_scores_32 : decode cX3_scores 32 = .ok (.ireturn, 1) := by decide +kernel
theorem dX3_scores_33 : decode cX3_scores 33 = .ok (.bipush 100, 2) := by decide +kernel
theorem dX3_scores_35 : decode cX3_scores 35 = .ok (.aload_n 0, 1) := by decide +kernel
theorem dX3_scores_36 : decode cX3_scores 36 = .ok (.getfield 12, 3) := by decide +kernel
theorem dX3_scores_39 : decode cX3_scores 39 = .ok (.getfield 88, 3) := by decide +kernel
theorem dX3_scores_42 : decode cX3_scores 42 = .ok (.iload_n 1, 1) := by decide +kernel
theorem dX3_scores_43 : decode cX3_scores 43 = .ok (.iaload, 1) := by decide +kernel
theorem dX3_scores_44 : decode cX3_scores 44 = .ok (.iload_n 2, 1) := by decide +kernel
theorem dX3_scores_45 : decode cX3_scores 45 = .ok (.iload_n 3, 1) := by decide +kernel
theorem dX3_scores_46 : decode cX3_scores 46 = .ok (.invokestatic 106, 3) := by decide +kernel
theorem dX3_scores_49 : decode cX3_scores 49 = .ok (.iadd, 1) := by decide +kernel
theorem dX3_scores_50 : decode cX3_scores 50 = .ok (.ireturn, 1) := by decide +kernel
theorem dX3_set_0 : decode cX3_set 0 = .ok (.aload_n 0, 1) := by decide +kernel
theorem dX3_set_1 : decode cX3_set 1 = .ok (.iload_n 1, 1) := by decide +kernel
theorem dX3_set_2 : decode cX3_set 2 = .ok (.invokevirtual 84, 3) := by decide +kernel
theorem dX3_set_5 : decode cX3_set 5 = .ok (.ifCond .ne 10, 3) := by decide +kernel
theorem dX3_set_8 : decode cX3_set 8 = .ok (.aload_n 0, 1) := by decide +kernel
theorem dX3_set_9 : decode cX3_set 9 = .ok (.ldc 48, 2) := by decide +kernel
theorem dX3_set_11 : decode cX3_set 11 = .ok (.invokevirtual 49, 3) := by decide +kernel
theorem dX3_set_14 : decode cX3_set 14 = .ok (.ireturn, 1) := by decide +kernel
theorem dX3_set_15 : decode cX3_set 15 = .ok (.iload_n 2, 1) := by decide +kernel
theorem dX3_set_16 : decode cX3_set 16 = .ok (.iconst 1, 1) := by decide +kernel
theorem dX3_set_17 : decode cX3_set 17 = .ok (.if_icmp .ne 37, 3) := by decide +kernel
theorem dX3_set_20 : decode cX3_set 20 = .ok (.iload_n 3, 1) := by decide +kernel
theorem dX3_set_21 : decode cX3_set 21 = .ok (.iconst 0, 1) := by decide +kernel
theorem dX3_set_22 : decode cX3_set 22 = .ok (.bipush 99, 2) := by decide +kernel
theorem dX3_set_24 : decode cX3_set 24 = .ok (.invokestatic 44, 3) := by decide +kernel
theorem dX3_set_27 : decode cX3_set 27 = .ok (.ifCond .eq 27, 3) := by decide +kernel
theorem dX3_set_30 : decode cX3_set 30 = .ok (.aload_n 0, 1) := by decide +kernel
theorem dX3_set_31 : decode cX3_set 31 = .ok (.getfield 12, 3) := by decide +kernel
theorem dX3_set_34 : decode cX3_set 34 = .ok (.getfield 91, 3) := by decide +kernel
theorem dX3_set_37 : decode cX3_set 37 = .ok (.iload_n 1, 1) := by decide +kernel
theorem dX3_set_38 : decode cX3_set 38 = .ok (.iaload, 1) := by decide +kernel
theorem dX3_set_39 : decode cX3_set 39 = .ok (.istore 4, 2) := by decide +kernel
theorem dX3_set_41 : decode cX3_set 41 = .ok (.aload_n 0, 1) := by decide +kernel
theorem dX3_set_42 : decode cX3_set 42 = .ok (.getfield 12, 3) := by decide +kernel
theorem dX3_set_45 : decode cX3_set 45 = .ok (.getfield 91, 3) := by decide +kernel
theorem dX3_set_48 : decode cX3_set 48 = .ok (.iload_n 1, 1) := by decide +kernel
theorem dX3_set_49 : decode cX3_set 49 = .ok (.iload_n 3, 1) := by decide +kernel
theorem dX3_set_50 : decode cX3_set 50 = .ok (.iastore, 1) := by decide +kernel
theorem dX3_set_51 : decode cX3_set 51 = .ok (.iload 4, 2) := by decide +kernel
theorem dX3_set_53 : decode cX3_set 53 = .ok (.ireturn, 1) := by decide +kernel
theorem dX3_set_54 : decode cX3_set 54 = .ok (.iload_n 2, 1) := by decide +kernel
theorem dX3_set_55 : decode cX3_set 55 = .ok (.iconst 2, 1) := by decide +kernel
theorem dX3_set_56 : decode cX3_set 56 = .ok (.if_icmp .ne 40, 3) := by decide +kernel
theorem dX3_set_59 : decode cX3_set 59 = .ok (.iload_n 3, 1) := by decide +kernel
theorem dX3_set_60 : decode cX3_set 60 = .ok (.sipush (-9999), 3) := by decide +kernel
theorem dX3_set_63 : decode cX3_set 63 = .ok (.sipush 9999, 3) := by decide +kernel
theorem dX3_set_66 : decode cX3_set 66 = .ok (.invokestatic 44, 3) := by decide +kernel
theorem dX3_set_69 : decode cX3_set 69 = .ok (.ifCond .eq 27, 3) := by decide +kernel
theorem dX3_set_72 : decode cX3_set 72 = .ok (.aload_n 0, 1) := by decide +kernel
theorem dX3_set_73 : decode cX3_set 73 = .ok (.getfield 12, 3) := by decide +kernel
theorem dX3_set_76 : decode cX3_set 76 = .ok (.getfield 94, 3) := by decide +kernel
theorem dX3_set_79 : decode cX3_set 79 = .ok (.iload_n 1, 1) := by decide +kernel
theorem dX3_set_80 : decode cX3_set 80 = .ok (.iaload, 1) := by decide +kernel
theorem dX3_set_81 : decode cX3_set 81 = .ok (.istore 4, 2) := by decide +kernel
theorem dX3_set_83 : decode cX3_set 83 = .ok (.aload_n 0, 1) := by decide +kernel
theorem dX3_set_84 : decode cX3_set 84 = .ok (.getfield 12, 3) := by decide +kernel
theorem dX3_set_87 : decode cX3_set 87 = .ok (.getfield 94, 3) := by decide +kernel
theorem dX3_set_90 : decode cX3_set 90 = .ok (.iload_n 1, 1) := by decide +kernel
theorem dX3_set_91 : decode cX3_set 91 = .ok (.iload_n 3, 1) := by decide +kernel
theorem dX3_set_92 : decode cX3_set 92 = .ok (.iastore, 1) := by decide +kernel
theorem dX3_set_93 : decode cX3_set 93 = .ok (.iload 4, 2) := by decide +kernel
theorem dX3_set_95 : decode cX3_set 95 = .ok (.ireturn, 1) := by decide +kernel
theorem dX3_set_96 : decode cX3_set 96 = .ok (.iload_n 2, 1) := by decide +kernel
theorem dX3_set_97 : decode cX3_set 97 = .ok (.iconst 3, 1) := by decide +kernel
theorem dX3_set_98 : decode cX3_set 98 = .ok (.if_icmp .ne 36, 3) := by decide +kernel
theorem dX3_set_101 : decode cX3_set 101 = .ok (.iload_n 3, 1) := by decide +kernel
theorem dX3_set_102 : decode cX3_set 102 = .ok (.iconst 0, 1) := by decide +kernel
theorem dX3_set_103 : decode cX3_set 103 = .ok (.iconst 4, 1) := by decide +kernel
theorem dX3_set_104 : decode cX3_set 104 = .ok (.invokestatic 44, 3) := by decide +kernel
theorem dX3_set_107 : decode cX3_set 107 = .ok (.ifCond .eq 27, 3) := by decide +kernel
theorem dX3_set_110 : decode cX3_set 110 = .ok (.aload_n 0, 1) := by decide +kernel
theorem dX3_set_111 : decode cX3_set 111 = .ok (.getfield 12, 3) := by decide +kernel
theorem dX3_set_114 : decode cX3_set 114 = .ok (.getfield 97, 3) := by decide +kernel
theorem dX3_set_117 : decode cX3_set 117 = .ok (.iload_n 1, 1) := by decide +kernel
theorem dX3_set_118 : decode cX3_set 118 = .ok (.iaload, 1) := by decide +kernel
theorem dX3_set_119 : decode cX3_set 119 = .ok (.istore 4, 2) := by decide +kernel
theorem dX3_set_121 : decode cX3_set 121 = .ok (.aload_n 0, 1) := by decide +kernel
theorem dX3_set_122 : decode cX3_set 122 = .ok (.getfield 12, 3) := by decide +kernel
theorem dX3_set_125 : decode cX3_set 125 = .ok (.getfield 97, 3) := by decide +kernel
theorem dX3_set_128 : decode cX3_set 128 = .ok (.iload_n 1, 1) := by decide +kernel
theorem dX3_set_129 : decode cX3_set 129 = .ok (.iload_n 3, 1) := by decide +kernel
theorem dX3_set_130 : decode cX3_set 130 = .ok (.iastore, 1) := by decide +kernel
theorem dX3_set_131 : decode cX3_set 131 = .ok (.iload 4, 2) := by decide +kernel
theorem dX3_set_133 : decode cX3_set 133 = .ok (.ireturn, 1) := by decide +kernel
theorem dX3_set_134 : decode cX3_set 134 = .ok (.aload_n 0, 1) := by decide +kernel
theorem dX3_set_135 : decode cX3_set 135 = .ok (.ldc 48, 2) := by decide +kernel
theorem dX3_set_137 : decode cX3_set 137 = .ok (.invokevirtual 49, 3) := by decide +kernel
theorem dX3_set_140 : decode cX3_set 140 = .ok (.ireturn, 1) := by decide +kernel
theorem dX3_turn_0 : decode cX3_turn 0 = .ok (.aload_n 0, 1) := by decide +kernel
theorem dX3_turn_1 : decode cX3_turn 1 = .ok (.iload_n 1, 1) := by decide +kernel
theorem dX3_turn_2 : decode cX3_turn 2 = .ok (.invokevirtual 84, 3) := by decide +kernel
theorem dX3_turn_5 : decode cX3_turn 5 = .ok (.ifCond .eq 12, 3) := by decide +kernel
theorem dX3_turn_8 : decode cX3_turn 8 = .ok (.iload_n 2, 1) := by decide +kernel
theorem dX3_turn_9 : decode cX3_turn 9 = .ok (.iconst 0, 1) := by decide +kernel
theorem dX3_turn_10 : decode cX3_turn 10 = .ok (.iconst 5, 1) := by decide +kernel
theorem dX3_turn_11 : decode cX3_turn 11 = .ok (.invokestatic 44, 3) := by decide +kernel
theorem dX3_turn_14 : decode cX3_turn 14 = .ok (.ifCond .ne 10, 3) := by decide +kernel
theorem dX3_turn_17 : decode cX3_turn 17 = .ok (.aload_n 0, 1) := by decide +kernel
theorem dX3_turn_18 : decode cX3_turn 18 = .ok (.ldc 48, 2) := by decide +kernel
theorem dX3_turn_20 : decode cX3_turn 20 = .ok (.invokevirtual 49, 3) := by decide +kernel
theorem dX3_turn_23 : decode cX3_turn 23 = .ok (.ireturn, 1) := by decide +kernel
theorem dX3_turn_24 : decode cX3_turn 24 = .ok (.aload_n 0, 1) := by decide +kernel
theorem dX3_turn_25 : decode cX3_turn 25 = .ok (.getfield 12, 3) := by decide +kernel
theorem dX3_turn_28 : decode cX3_turn 28 = .ok (.getfield 88, 3) := by decide +kernel
theorem dX3_turn_31 : decode cX3_turn 31 = .ok (.iload_n 1, 1) := by decide +kernel
theorem dX3_turn_32 : decode cX3_turn 32 = .ok (.iaload, 1) := by decide +kernel
theorem dX3_turn_33 : decode cX3_turn 33 = .ok (.istore_n 3, 1) := by decide +kernel
theorem dX3_turn_34 : decode cX3_turn 34 = .ok (.aload_n 0, 1) := by decide +kernel
theorem dX3_turn_35 : decode cX3_turn 35 = .ok (.getfield 12, 3) := by decide +kernel
theorem dX3_turn_38 : decode cX3_turn 38 = .ok (.getfield 88, 3) := by decide +kernel
theorem dX3_turn_41 : decode cX3_turn 41 = .ok (.iload_n 1, 1) := by decide +kernel
theorem dX3_turn_42 : decode cX3_turn 42 = .ok (.iload_n 2, 1) := by decide +kernel
theorem dX3_turn_43 : decode cX3_turn 43 = .ok (.iastore, 1) := by decide +kernel
theorem dX3_turn_44 : decode cX3_turn 44 = .ok (.iload_n 3, 1) := by decide +kernel
theorem dX3_turn_45 : decode cX3_turn 45 = .ok (.ireturn, 1) := by decide +kernel
theorem dX3_as_0 : decode cX3_as 0 = .ok (.aload_n 0, 1) := by decide +kernel
theorem dX3_as_1 : decode cX3_as 1 = .ok (.iload_n 1, 1) := by decide +kernel
theorem dX3_as_2 : decode cX3_as 2 = .ok (.invokevirtual 84, 3) := by decide +kernel
theorem dX3_as_5 : decode cX3_as 5 = .ok (.ifCond .eq 12, 3) := by decide +kernel
theorem dX3_as_8 : decode cX3_as 8 = .ok (.iload_n 2, 1) := by decide +kernel
theorem dX3_as_9 : decode cX3_as 9 = .ok (.iconst 0, 1) := by decide +kernel
theorem dX3_as_10 : decode cX3_as 10 = .ok (.iconst 5, 1) := by decide +kernel
theorem dX3_as_11 : decode cX3_as 11 = .ok (.invokestatic 44, 3) := by decide +kernel
theorem dX3_as_14 : decode cX3_as 14 = .ok (.ifCond .ne 10, 3) := by decide +kernel
theorem dX3_as_17 : decode cX3_as 17 = .ok (.aload_n 0, 1) := by decide +kernel
theorem dX3_as_18 : decode cX3_as 18 = .ok (.ldc 48, 2) := by decide +kernel
theorem dX3_as_20 : decode cX3_as 20 = .ok (.invokevirtual 49, 3) := by decide +kernel
theorem dX3_as_23 : decode cX3_as 23 = .ok (.ireturn, 1) := by decide +kernel
theorem dX3_as_24 : decode cX3_as 24 = .ok (.aload_n 0, 1) := by decide +kernel
theorem dX3_as_25 : decode cX3_as 25 = .ok (.getfield 12, 3) := by decide +kernel
theorem dX3_as_28 : decode cX3_as 28 = .ok (.getfield 88, 3) := by decide +kernel
theorem dX3_as_31 : decode cX3_as 31 = .ok (.iload_n 1, 1) := by decide +kernel
theorem dX3_as_32 : decode cX3_as 32 = .ok (.iaload, 1) := by decide +kernel
theorem dX3_as_33 : decode cX3_as 33 = .ok (.iload_n 2, 1) := by decide +kernel
theorem dX3_as_34 : decode cX3_as 34 = .ok (.invokestatic 110, 3) := by decide +kernel
theorem dX3_as_37 : decode cX3_as 37 = .ok (.ifCond .ne 10, 3) := by decide +kernel
theorem dX3_as_40 : decode cX3_as 40 = .ok (.aload_n 0, 1) := by decide +kernel
theorem dX3_as_41 : decode cX3_as 41 = .ok (.ldc 114, 2) := by decide +kernel
theorem dX3_as_43 : decode cX3_as 43 = .ok (.invokevirtual 49, 3) := by decide +kernel
theorem dX3_as_46 : decode cX3_as 46 = .ok (.ireturn, 1) := by decide +kernel
theorem dX3_as_47 : decode cX3_as 47 = .ok (.aload_n 0, 1) := by decide +kernel
theorem dX3_as_48 : decode cX3_as 48 = .ok (.getfield 12, 3) := by decide +kernel
theorem dX3_as_51 : decode cX3_as 51 = .ok (.getfield 91, 3) := by decide +kernel
theorem dX3_as_54 : decode cX3_as 54 = .ok (.iload_n 1, 1) := by decide +kernel
theorem dX3_as_55 : decode cX3_as 55 = .ok (.iaload, 1) := by decide +kernel
theorem dX3_as_56 : decode cX3_as 56 = .ok (.ireturn, 1) := by decide +kernel
theorem dX3_swap_0 : decode cX3_swap 0 = .ok (.aload_n 0, 1) := by decide +kernel
theorem dX3_swap_1 : decode cX3_swap 1 = .ok (.iload_n 1, 1) := by decide +kernel
theorem dX3_swap_2 : decode cX3_swap 2 = .ok (.invokevirtual 84, 3) := by decide +kernel
theorem dX3_swap_5 : decode cX3_swap 5 = .ok (.ifCond .eq 16, 3) := by decide +kernel
theorem dX3_swap_8 : decode cX3_swap 8 = .ok (.aload_n 0, 1) := by decide +kernel
theorem dX3_swap_9 : decode cX3_swap 9 = .ok (.iload_n 2, 1) := by decide +kernel
theorem dX3_swap_10 : decode cX3_swap 10 = .ok (.invokevirtual 84, 3) := by decide +kernel
theorem dX3_swap_13 : decode cX3_swap 13 = .ok (.ifCond .eq 8, 3) := by decide +kernel
theorem dX3_swap_16 : decode cX3_swap 16 = .ok (.iload_n 1, 1) := by decide +kernel
theorem dX3_swap_17 : decode cX3_swap 17 = .ok (.iload_n 2, 1) := by decide +kernel
theorem dX3_swap_18 : decode cX3_swap 18 = .ok (.if_icmp .ne 10, 3) := by decide +kernel
theorem dX3_swap_21 : decode cX3_swap 21 = .ok (.aload_n 0, 1) := by decide +kernel
theorem dX3_swap_22 : decode cX3_swap 22 = .ok (.ldc 48, 2) := by decide +kernel
theorem dX3_swap_24 : decode cX3_swap 24 = .ok (.invokevirtual 49, 3) := by decide +kernel
theorem dX3_swap_27 : decode cX3_swap 27 = .ok (.ireturn, 1) := by decide +kernel
theorem dX3_swap_28 : decode cX3_swap 28 = .ok (.aload_n 0, 1) := by decide +kernel
theorem dX3_swap_29 : decode cX3_swap 29 = .ok (.getfield 12, 3) := by decide +kernel
theorem dX3_swap_32 : decode cX3_swap 32 = .ok (.iload_n 1, 1) := by decide +kernel
theorem dX3_swap_33 : decode cX3_swap 33 = .ok (.iload_n 2, 1) := by decide +kernel
theorem dX3_swap_34 : decode cX3_swap 34 = .ok (.invokevirtual 115, 3) := by decide +kernel
theorem dX3_swap_37 : decode cX3_swap 37 = .ok (.iconst 1, 1) := by decide +kernel
theorem dX3_swap_38 : decode cX3_swap 38 = .ok (.ireturn, 1) := by decide +kernel
theorem dX3_moments_0 : decode cX3_moments 0 = .ok (.iload_n 1, 1) := by decide +kernel
theorem dX3_moments_1 : decode cX3_moments 1 = .ok (.iconst 1, 1) := by decide +kernel
theorem dX3_moments_2 : decode cX3_moments 2 = .ok (.sipush 200, 3) := by decide +kernel
theorem dX3_moments_5 : decode cX3_moments 5 = .ok (.invokestatic 44, 3) := by decide +kernel
theorem dX3_moments_8 : decode cX3_moments 8 = .ok (.ifCond .ne 10, 3) := by decide +kernel
theorem dX3_moments_11 : decode cX3_moments 11 = .ok (.aload_n 0, 1) := by decide +kernel
theorem dX3_moments_12 : decode cX3_moments 12 = .ok (.ldc 48, 2) := by decide +kernel
theorem dX3_moments_14 : decode cX3_moments 14 = .ok (.invokevirtual 49, 3) := by decide +kernel
theorem dX3_moments_17 : decode cX3_moments 17 = .ok (.ireturn, 1) := by decide +kernel
theorem dX3_moments_18 : decode cX3_moments 18 = .ok (.aload_n 0, 1) := by decide +kernel
theorem dX3_moments_19 : decode cX3_moments 19 = .ok (.getfield 12, 3) := by decide +kernel
theorem dX3_moments_22 : decode cX3_moments 22 = .ok (.getfield 59, 3) := by decide +kernel
theorem dX3_moments_25 : decode cX3_moments 25 = .ok (.aload_n 0, 1) := by decide +kernel
theorem dX3_moments_26 : decode cX3_moments 26 = .ok (.getfield 12, 3) := by decide +kernel
theorem dX3_moments_29 : decode cX3_moments 29 = .ok (.getfield 63, 3) := by decide +kernel
theorem dX3_moments_32 : decode cX3_moments 32 = .ok (.iload_n 1, 1) := by decide +kernel
theorem dX3_moments_33 : decode cX3_moments 33 = .ok (.iadd, 1) := by decide +kernel
theorem dX3_moments_34 : decode cX3_moments 34 = .ok (.bipush 16, 2) := by decide +kernel
theorem dX3_moments_36 : decode cX3_moments 36 = .ok (.idiv, 1) := by decide +kernel
theorem dX3_moments_37 : decode cX3_moments 37 = .ok (.iadd, 1) := by decide +kernel
theorem dX3_moments_38 : decode cX3_moments 38 = .ok (.sipush 9999, 3) := by decide +kernel
theorem dX3_moments_41 : decode cX3_moments 41 = .ok (.if_icmp .le 10, 3) := by decide +kernel
theorem dX3_moments_44 : decode cX3_moments 44 = .ok (.aload_n 0, 1) := by decide +kernel
theorem dX3_moments_45 : decode cX3_moments 45 = .ok (.ldc 119, 2) := by decide +kernel
theorem dX3_moments_47 : decode cX3_moments 47 = .ok (.invokevirtual 49, 3) := by decide +kernel
theorem dX3_moments_50 : decode cX3_moments 50 = .ok (.ireturn, 1) := by decide +kernel
theorem dX3_moments_51 : decode cX3_moments 51 = .ok (.aload_n 0, 1) := by decide +kernel
theorem dX3_moments_52 : decode cX3_moments 52 = .ok (.getfield 12, 3) := by decide +kernel
theorem dX3_moments_55 : decode cX3_moments 55 = .ok (.iload_n 1, 1) := by decide +kernel
theorem dX3_moments_56 : decode cX3_moments 56 = .ok (.invokevirtual 120, 3) := by decide +kernel
theorem dX3_moments_59 : decode cX3_moments 59 = .ok (.aload_n 0, 1) := by decide +kernel
theorem dX3_moments_60 : decode cX3_moments 60 = .ok (.getfield 12, 3) := by decide +kernel
theorem dX3_moments_63 : decode cX3_moments 63 = .ok (.getfield 63, 3) := by decide +kernel
theorem dX3_moments_66 : decode cX3_moments 66 = .ok (.ireturn, 1) := by decide +kernel
theorem dX3_note_0 : decode cX3_note 0 = .ok (.aload_n 0, 1) := by decide +kernel
theorem dX3_note_1 : decode cX3_note 1 = .ok (.iload_n 1, 1) := by decide +kernel
theorem dX3_note_2 : decode cX3_note 2 = .ok (.invokevirtual 84, 3) := by decide +kernel
theorem dX3_note_5 : decode cX3_note 5 = .ok (.ifCond .eq 14, 3) := by decide +kernel
theorem dX3_note_8 : decode cX3_note 8 = .ok (.iload_n 2, 1) := by decide +kernel
theorem dX3_note_9 : decode cX3_note 9 = .ok (.iconst 0, 1) := by decide +kernel
theorem dX3_note_10 : decode cX3_note 10 = .ok (.sipush 400, 3) := by decide +kernel
theorem dX3_note_13 : decode cX3_note 13 = .ok (.invokestatic 44, 3) := by decide +kernel
theorem dX3_note_16 : decode cX3_note 16 = .ok (.ifCond .ne 10, 3) := by decide +kernel
theorem dX3_note_19 : decode cX3_note 19 = .ok (.aload_n 0, 1) := by decide +kernel
theorem dX3_note_20 : decode cX3_note 20 = .ok (.ldc 48, 2) := by decide +kernel
theorem dX3_note_22 : decode cX3_note 22 = .ok (.invokevirtual 49, 3) := by decide +kernel
theorem dX3_note_25 : decode cX3_note 25 = .ok (.ireturn, 1) := by decide +kernel
theorem dX3_note_26 : decode cX3_note 26 = .ok (.aload_n 0, 1) := by decide +kernel
theorem dX3_note_27 : decode cX3_note 27 = .ok (.invokevirtual 124, 3) := by decide +kernel
theorem dX3_note_30 : decode cX3_note 30 = .ok (.aload_n 0, 1) := by decide +kernel
theorem dX3_note_31 : decode cX3_note 31 = .ok (.getfield 16, 3) := by decide +kernel
theorem dX3_note_34 : decode cX3_note 34 = .ok (.iload_n 2, 1) := by decide +kernel
theorem dX3_note_35 : decode cX3_note 35 = .ok (.invokevirtual 120, 3) := by decide +kernel
theorem dX3_note_38 : decode cX3_note 38 = .ok (.aload_n 0, 1) := by decide +kernel
theorem dX3_note_39 : decode cX3_note 39 = .ok (.getfield 16, 3) := by decide +kernel
theorem dX3_note_42 : decode cX3_note 42 = .ok (.getfield 94, 3) := by decide +kernel
theorem dX3_note_45 : decode cX3_note 45 = .ok (.iload_n 1, 1) := by decide +kernel
theorem dX3_note_46 : decode cX3_note 46 = .ok (.iaload, 1) := by decide +kernel
theorem dX3_note_47 : decode cX3_note 47 = .ok (.ireturn, 1) := by decide +kernel
theorem dX3_on_0 : decode cX3_on 0 = .ok (.aload_n 0, 1) := by decide +kernel
theorem dX3_on_1 : decode cX3_on 1 = .ok (.iload_n 1, 1) := by decide +kernel
theorem dX3_on_2 : decode cX3_on 2 = .ok (.invokevirtual 84, 3) := by decide +kernel
theorem dX3_on_5 : decode cX3_on 5 = .ok (.ifCond .eq 23, 3) := by decide +kernel
theorem dX3_on_8 : decode cX3_on 8 = .ok (.iload_n 2, 1) := by decide +kernel
theorem dX3_on_9 : decode cX3_on 9 = .ok (.iconst 0, 1) := by decide +kernel
theorem dX3_on_10 : decode cX3_on 10 = .ok (.sipush 400, 3) := by decide +kernel
theorem dX3_on_13 : decode cX3_on 13 = .ok (.invokestatic 44, 3) := by decide +kernel
theorem dX3_on_16 : decode cX3_on 16 = .ok (.ifCond .eq 12, 3) := by decide +kernel
theorem dX3_on_19 : decode cX3_on 19 = .ok (.iload_n 3, 1) := by decide +kernel
theorem dX3_on_20 : decode cX3_on 20 = .ok (.iconst 0, 1) := by decide +kernel
theorem dX3_on_21 : decode cX3_on 21 = .ok (.iconst 1, 1) := by decide +kernel
theorem dX3_on_22 : decode cX3_on 22 = .ok (.invokestatic 44, 3) := by decide +kernel
theorem dX3_on_25 : decode cX3_on 25 = .ok (.ifCond .ne 10, 3) := by decide +kernel
theorem dX3_on_28 : decode cX3_on 28 = .ok (.aload_n 0, 1) := by decide +kernel
theorem dX3_on_29 : decode cX3_on 29 = .ok (.ldc 48, 2) := by decide +kernel
theorem dX3_on_31 : decode cX3_on 31 = .ok (.invokevirtual 49, 3) := by decide +kernel
theorem dX3_on_34 : decode cX3_on 34 = .ok (.ireturn, 1) := by decide +kernel
theorem dX3_on_35 : decode cX3_on 35 = .ok (.aload_n 0, 1) := by decide +kernel
theorem dX3_on_36 : decode cX3_on 36 = .ok (.invokevirtual 124, 3) := by decide +kernel
theorem dX3_on_39 : decode cX3_on 39 = .ok (.aload_n 0, 1) := by decide +kernel
theorem dX3_on_40 : decode cX3_on 40 = .ok (.getfield 16, 3) := by decide +kernel
theorem dX3_on_43 : decode cX3_on 43 = .ok (.iload_n 2, 1) := by decide +kernel
theorem dX3_on_44 : decode cX3_on 44 = .ok (.invokevirtual 120, 3) := by decide +kernel
theorem dX3_on_47 : decode cX3_on 47 = .ok (.iload_n 3, 1) := by decide +kernel
theorem dX3_on_48 : decode cX3_on 48 = .ok (.ifCond .ne 15, 3) := by decide +kernel
theorem dX3_on_51 : decode cX3_on 51 = .ok (.aload_n 0, 1) := by decide +kernel
theorem dX3_on_52 : decode cX3_on 52 = .ok (.getfield 16, 3) := by decide +kernel
theorem dX3_on_55 : decode cX3_on 55 = .ok (.getfield 91, 3) := by decide +kernel
theorem dX3_on_58 : decode cX3_on 58 = .ok (.iload_n 1, 1) := by decide +kernel
theorem dX3_on_59 : decode cX3_on 59 = .ok (.iaload, 1) := by decide +kernel
theorem dX3_on_60 : decode cX3_on 60 = .ok (.goto 12, 3) := by decide +kernel
theorem dX3_on_63 : decode cX3_on 63 = .ok (.aload_n 0, 1) := by decide +kernel
theorem dX3_on_64 : decode cX3_on 64 = .ok (.getfield 16, 3) := by decide +kernel
theorem dX3_on_67 : decode cX3_on 67 = .ok (.getfield 97, 3) := by decide +kernel
theorem dX3_on_70 : decode cX3_on 70 = .ok (.iload_n 1, 1) := by decide +kernel
theorem dX3_on_71 : decode cX3_on 71 = .ok (.iaload, 1) := by decide +kernel
theorem dX3_on_72 : decode cX3_on 72 = .ok (.ireturn, 1) := by decide +kernel
theorem dX3_house_0 : decode cX3_house 0 = .ok (.iload_n 1, 1) := by decide +kernel
theorem dX3_house_1 : decode cX3_house 1 = .ok (.iconst 0, 1) := by decide +kernel
theorem dX3_house_2 : decode cX3_house 2 = .ok (.sipush 400, 3) := by decide +kernel
theorem dX3_house_5 : decode cX3_house 5 = .ok (.invokestatic 44, 3) := by decide +kernel
theorem dX3_house_8 : decode cX3_house 8 = .ok (.ifCond .ne 10, 3) := by decide +kernel
theorem dX3_house_11 : decode cX3_house 11 = .ok (.aload_n 0, 1) := by decide +kernel
theorem dX3_house_12 : decode cX3_house 12 = .ok (.ldc 48, 2) := by decide +kernel
theorem dX3_house_14 : decode cX3_house 14 = .ok (.invokevirtual 49, 3) := by decide +kernel
theorem dX3_house_17 : decode cX3_house 17 = .ok (.ireturn, 1) := by decide +kernel
theorem dX3_house_18 : decode cX3_house 18 = .ok (.aload_n 0, 1) := by decide +kernel
theorem dX3_house_19 : decode cX3_house 19 = .ok (.invokevirtual 124, 3) := by decide +kernel
theorem dX3_house_22 : decode cX3_house 22 = .ok (.aload_n 0, 1) := by decide +kernel
theorem dX3_house_23 : decode cX3_house 23 = .ok (.getfield 16, 3) := by decide +kernel
theorem dX3_house_26 : decode cX3_house 26 = .ok (.iload_n 1, 1) := by decide +kernel
theorem dX3_house_27 : decode cX3_house 27 = .ok (.invokevirtual 127, 3) := by decide +kernel
theorem dX3_house_30 : decode cX3_house 30 = .ok (.ireturn, 1) := by decide +kernel
theorem dX3_heard_0 : decode cX3_heard 0 = .ok (.iload_n 1, 1) := by decide +kernel
theorem dX3_heard_1 : decode cX3_heard 1 = .ok (.iconst 1, 1) := by decide +kernel
theorem dX3_heard_2 : decode cX3_heard 2 = .ok (.sipush 400, 3) := by decide +kernel
theorem dX3_heard_5 : decode cX3_heard 5 = .ok (.invokestatic 44, 3) := by decide +kernel
theorem dX3_heard_8 : decode cX3_heard 8 = .ok (.ifCond .eq 12, 3) := by decide +kernel
theorem dX3_heard_11 : decode cX3_heard 11 = .ok (.iload_n 2, 1) := by decide +kernel
theorem dX3_heard_12 : decode cX3_heard 12 = .ok (.iconst 0, 1) := by decide +kernel
theorem dX3_heard_13 : decode cX3_heard 13 = .ok (.iconst 4, 1) := by decide +kernel
theorem dX3_heard_14 : decode cX3_heard 14 = .ok (.invokestatic 44, 3) := by decide +kernel
theorem dX3_heard_17 : decode cX3_heard 17 = .ok (.ifCond .ne 10, 3) := by decide +kernel
theorem dX3_heard_20 : decode cX3_heard 20 = .ok (.aload_n 0, 1) := by decide +kernel
theorem dX3_heard_21 : decode cX3_heard 21 = .ok (.ldc 48, 2) := by decide +kernel
theorem dX3_heard_23 : decode cX3_heard 23 = .ok (.invokevirtual 49, 3) := by decide +kernel
theorem dX3_heard_26 : decode cX3_heard 26 = .ok (.ireturn, 1) := by decide +kernel
theorem dX3_heard_27 : decode cX3_heard 27 = .ok (.aload_n 0, 1) := by decide +kernel
theorem dX3_heard_28 : decode cX3_heard 28 = .ok (.invokevirtual 124, 3) := by decide +kernel
theorem dX3_heard_31 : decode cX3_heard 31 = .ok (.aload_n 0, 1) := by decide +kernel
theorem dX3_heard_32 : decode cX3_heard 32 = .ok (.getfield 16, 3) := by decide +kernel
theorem dX3_heard_35 : decode cX3_heard 35 = .ok (.iload_n 1, 1) := by decide +kernel
theorem dX3_heard_36 : decode cX3_heard 36 = .ok (.iconst 1, 1) := by decide +kernel
theorem dX3_heard_37 : decode cX3_heard 37 = .ok (.isub, 1) := by decide +kernel
theorem dX3_heard_38 : decode cX3_heard 38 = .ok (.invokevirtual 120, 3) := by decide +kernel
theorem dX3_heard_41 : decode cX3_heard 41 = .ok (.aload_n 0, 1) := by decide +kernel
theorem dX3_heard_42 : decode cX3_heard 42 = .ok (.getfield 16, 3) := by decide +kernel
theorem dX3_heard_45 : decode cX3_heard 45 = .ok (.iload_n 2, 1) := by decide +kernel
theorem dX3_heard_46 : decode cX3_heard 46 = .ok (.invokevirtual 130, 3) := by decide +kernel
theorem dX3_heard_49 : decode cX3_heard 49 = .ok (.ireturn, 1) := by decide +kernel
theorem dX3_does_0 : decode cX3_does 0 = .ok (.aload_n 0, 1) := by decide +kernel
theorem dX3_does_1 : decode cX3_does 1 = .ok (.iload_n 1, 1) := by decide +kernel
theorem dX3_does_2 : decode cX3_does 2 = .ok (.invokevirtual 84, 3) := by decide +kernel
theorem dX3_does_5 : decode cX3_does 5 = .ok (.ifCond .eq 12, 3) := by decide +kernel
theorem dX3_does_8 : decode cX3_does 8 = .ok (.iload_n 2, 1) := by decide +kernel
theorem dX3_does_9 : decode cX3_does 9 = .ok (.iconst 0, 1) := by decide +kernel
theorem dX3_does_10 : decode cX3_does 10 = .ok (.iconst 4, 1) := by decide +kernel
theorem dX3_does_11 : decode cX3_does 11 = .ok (.invokestatic 44, 3) := by decide +kernel
theorem dX3_does_14 : decode cX3_does 14 = .ok (.ifCond .ne 10, 3) := by decide +kernel
theorem dX3_does_17 : decode cX3_does 17 = .ok (.aload_n 0, 1) := by decide +kernel
theorem dX3_does_18 : decode cX3_does 18 = .ok (.ldc 48, 2) := by decide +kernel
theorem dX3_does_20 : decode cX3_does 20 = .ok (.invokevirtual 49, 3) := by decide +kernel
theorem dX3_does_23 : decode cX3_does 23 = .ok (.ireturn, 1) := by decide +kernel
theorem dX3_does_24 : decode cX3_does 24 = .ok (.aload_n 0, 1) := by decide +kernel
theorem dX3_does_25 : decode cX3_does 25 = .ok (.invokevirtual 124, 3) := by decide +kernel
theorem dX3_does_28 : decode cX3_does 28 = .ok (.iconst 1, 1) := by decide +kernel
theorem dX3_does_29 : decode cX3_does 29 = .ok (.istore_n 3, 1) := by decide +kernel
theorem dX3_does_30 : decode cX3_does 30 = .ok (.iload_n 3, 1) := by decide +kernel
theorem dX3_does_31 : decode cX3_does 31 = .ok (.sipush 400, 3) := by decide +kernel
theorem dX3_does_34 : decode cX3_does 34 = .ok (.if_icmp .gt 30, 3) := by decide +kernel
theorem dX3_does_37 : decode cX3_does 37 = .ok (.aload_n 0, 1) := by decide +kernel
theorem dX3_does_38 : decode cX3_does 38 = .ok (.getfield 16, 3) := by decide +kernel
theorem dX3_does_41 : decode cX3_does 41 = .ok (.iload_n 1, 1) := by decide +kernel
theorem dX3_does_42 : decode cX3_does 42 = .ok (.invokevirtual 100, 3) := by decide +kernel
theorem dX3_does_45 : decode cX3_does 45 = .ok (.iload_n 2, 1) := by decide +kernel
theorem dX3_does_46 : decode cX3_does 46 = .ok (.if_icmp .ne 5, 3) := by decide +kernel
theorem dX3_does_49 : decode cX3_does 49 = .ok (.iload_n 3, 1) := by decide +kernel
theorem dX3_does_50 : decode cX3_does 50 = .ok (.ireturn, 1) := by decide +kernel
theorem dX3_does_51 : decode cX3_does 51 = .ok (.aload_n 0, 1) := by decide +kernel
theorem dX3_does_52 : decode cX3_does 52 = .ok (.getfield 16, 3) := by decide +kernel
theorem dX3_does_55 : decode cX3_does 55 = .ok (.invokevirtual 133, 3) := by decide +kernel
theorem dX3_does_58 : decode cX3_does 58 = .ok (.iinc 3 1, 3) := by decide +kernel
theorem dX3_does_61 : decode cX3_does 61 = .ok (.goto (-31), 3) := by decide +kernel
theorem dX3_does_64 : decode cX3_does 64 = .ok (.aload_n 0, 1) := by decide +kernel
theorem dX3_does_65 : decode cX3_does 65 = .ok (.ldc 136, 2) := by decide +kernel
theorem dX3_does_67 : decode cX3_does 67 = .ok (.invokevirtual 49, 3) := by decide +kernel
theorem dX3_does_70 : decode cX3_does 70 = .ok (.ireturn, 1) := by decide +kernel
theorem dX3_comes_0 : decode cX3_comes 0 = .ok (.aload_n 0, 1) := by decide +kernel
theorem dX3_comes_1 : decode cX3_comes 1 = .ok (.iload_n 1, 1) := by decide +kernel
theorem dX3_comes_2 : decode cX3_comes 2 = .ok (.invokevirtual 84, 3) := by decide +kernel
theorem dX3_comes_5 : decode cX3_comes 5 = .ok (.ifCond .eq 16, 3) := by decide +kernel
theorem dX3_comes_8 : decode cX3_comes 8 = .ok (.iload_n 2, 1) := by decide +kernel
theorem dX3_comes_9 : decode cX3_comes 9 = .ok (.sipush (-9999), 3) := by decide +kernel
theorem dX3_comes_12 : decode cX3_comes 12 = .ok (.sipush 9999, 3) := by decide +kernel
theorem dX3_comes_15 : decode cX3_comes 15 = .ok (.invokestatic 44, 3) := by decide +kernel
theorem dX3_comes_18 : decode cX3_comes 18 = .ok (.ifCond .ne 10, 3) := by decide +kernel
theorem dX3_comes_21 : decode cX3_comes 21 = .ok (.aload_n 0, 1) := by decide +kernel
theorem dX3_comes_22 : decode cX3_comes 22 = .ok (.ldc 48, 2) := by decide +kernel
theorem dX3_comes_24 : decode cX3_comes 24 = .ok (.invokevirtual 49, 3) := by decide +kernel
theorem dX3_comes_27 : decode cX3_comes 27 = .ok (.ireturn, 1) := by decide +kernel
theorem dX3_comes_28 : decode cX3_comes 28 = .ok (.aload_n 0, 1) := by decide +kernel
theorem dX3_comes_29 : decode cX3_comes 29 = .ok (.invokevirtual 124, 3) := by decide +kernel
theorem dX3_comes_32 : decode cX3_comes 32 = .ok (.iconst 0, 1) := by decide +kernel
theorem dX3_comes_33 : decode cX3_comes 33 = .ok (.istore_n 3, 1) := by decide +kernel
theorem dX3_comes_34 : decode cX3_comes 34 = .ok (.iload_n 3, 1) := by decide +kernel
theorem dX3_comes_35 : decode cX3_comes 35 = .ok (.sipush 400, 3) := by decide +kernel
theorem dX3_comes_38 : decode cX3_comes 38 = .ok (.if_icmp .gt 31, 3) := by decide +kernel
theorem dX3_comes_41 : decode cX3_comes 41 = .ok (.aload_n 0, 1) := by decide +kernel
theorem dX3_comes_42 : decode cX3_comes 42 = .ok (.getfield 16, 3) := by decide +kernel
theorem dX3_comes_45 : decode cX3_comes 45 = .ok (.getfield 94, 3) := by decide +kernel
theorem dX3_comes_48 : decode cX3_comes 48 = .ok (.iload_n 1, 1) := by decide +kernel
theorem dX3_comes_49 : decode cX3_comes 49 = .ok (.iaload, 1) := by decide +kernel
theorem dX3_comes_50 : decode cX3_comes 50 = .ok (.iload_n 2, 1) := by decide +kernel
theorem dX3_comes_51 : decode cX3_comes 51 = .ok (.if_icmp .lt 5, 3) := by decide +kernel
theorem dX3_comes_54 : decode cX3_comes 54 = .ok (.iload_n 3, 1) := by decide +kernel
theorem dX3_comes_55 : decode cX3_comes 55 = .ok (.ireturn, 1) := by decide +kernel
theorem dX3_comes_56 : decode cX3_comes 56 = .ok (.aload_n 0, 1) := by decide +kernel
theorem dX3_comes_57 : decode cX3_comes 57 = .ok (.getfield 16, 3) := by decide +kernel
theorem dX3_comes_60 : decode cX3_comes 60 = .ok (.invokevirtual 133, 3) := by decide +kernel
theorem dX3_comes_63 : decode cX3_comes 63 = .ok (.iinc 3 1, 3) := by decide +kernel
theorem dX3_comes_66 : decode cX3_comes 66 = .ok (.goto (-32), 3) := by decide +kernel
theorem dX3_comes_69 : decode cX3_comes 69 = .ok (.aload_n 0, 1) := by decide +kernel
theorem dX3_comes_70 : decode cX3_comes 70 = .ok (.ldc 136, 2) := by decide +kernel
theorem dX3_comes_72 : decode cX3_comes 72 = .ok (.invokevirtual 49, 3) := by decide +kernel
theorem dX3_comes_75 : decode cX3_comes 75 = .ok (.ireturn, 1) := by decide +kernel
theorem dX3_place_0 : decode cX3_place 0 = .ok (.aload_n 0, 1) := by decide +kernel
theorem dX3_place_1 : decode cX3_place 1 = .ok (.iload_n 1, 1) := by decide +kernel
theorem dX3_place_2 : decode cX3_place 2 = .ok (.invokevirtual 84, 3) := by decide +kernel
theorem dX3_place_5 : decode cX3_place 5 = .ok (.ifCond .eq 13, 3) := by decide +kernel
theorem dX3_place_8 : decode cX3_place 8 = .ok (.iload_n 2, 1) := by decide +kernel
theorem dX3_place_9 : decode cX3_place 9 = .ok (.iconst 1, 1) := by decide +kernel
theorem dX3_place_10 : decode cX3_place 10 = .ok (.bipush 100, 2) := by decide +kernel
theorem dX3_place_12 : decode cX3_place 12 = .ok (.invokestatic 44, 3) := by decide +kernel
theorem dX3_place_15 : decode cX3_place 15 = .ok (.ifCond .ne 10, 3) := by decide +kernel
theorem dX3_place_18 : decode cX3_place 18 = .ok (.aload_n 0, 1) := by decide +kernel
theorem dX3_place_19 : decode cX3_place 19 = .ok (.ldc 48, 2) := by decide +kernel
theorem dX3_place_21 : decode cX3_place 21 = .ok (.invokevirtual 49, 3) := by decide +kernel
theorem dX3_place_24 : decode cX3_place 24 = .ok (.ireturn, 1) := by decide +kernel
theorem dX3_place_25 : decode cX3_place 25 = .ok (.aload_n 0, 1) := by decide +kernel
theorem dX3_place_26 : decode cX3_place 26 = .ok (.invokevirtual 124, 3) := by decide +kernel
theorem dX3_place_29 : decode cX3_place 29 = .ok (.aload_n 0, 1) := by decide +kernel
theorem dX3_place_30 : decode cX3_place 30 = .ok (.getfield 16, 3) := by decide +kernel
theorem dX3_place_33 : decode cX3_place 33 = .ok (.iload_n 2, 1) := by decide +kernel
theorem dX3_place_34 : decode cX3_place 34 = .ok (.invokevirtual 127, 3) := by decide +kernel
theorem dX3_place_37 : decode cX3_place 37 = .ok (.istore_n 3, 1) := by decide +kernel
theorem dX3_place_38 : decode cX3_place 38 = .ok (.iconst (-1), 1) := by decide +kernel
theorem dX3_place_39 : decode cX3_place 39 = .ok (.istore 4, 2) := by decide +kernel
theorem dX3_place_41 : decode cX3_place 41 = .ok (.iconst 0, 1) := by decide +kernel
theorem dX3_place_42 : decode cX3_place 42 = .ok (.istore 5, 2) := by decide +kernel
theorem dX3_place_44 : decode cX3_place 44 = .ok (.iload 5, 2) := by decide +kernel
theorem dX3_place_46 : decode cX3_place 46 = .ok (.aload_n 0, 1) := by decide +kernel
theorem dX3_place_47 : decode cX3_place 47 = .ok (.getfield 12, 3) := by decide +kernel
theorem dX3_place_50 : decode cX3_place 50 = .ok (.getfield 76, 3) := by decide +kernel
theorem dX3_place_53 : decode cX3_place 53 = .ok (.if_icmp .ge 55, 3) := by decide +kernel
theorem dX3_place_56 : decode cX3_place 56 = .ok (.iload 5, 2) := by decide +kernel
theorem dX3_place_58 : decode cX3_place 58 = .ok (.iload_n 1, 1) := by decide +kernel
theorem dX3_place_59 : decode cX3_place 59 = .ok (.if_icmp .ne 6, 3) := by decide +kernel
theorem dX3_place_62 : decode cX3_place 62 = .ok (.goto 40, 3) := by decide +kernel
theorem dX3_place_65 : decode cX3_place 65 = .ok (.aload_n 0, 1) := by decide +kernel
theorem dX3_place_66 : decode cX3_place 66 = .ok (.invokevirtual 124, 3) := by decide +kernel
theorem dX3_place_69 : decode cX3_place 69 = .ok (.aload_n 0, 1) := by decide +kernel
theorem dX3_place_70 : decode cX3_place 70 = .ok (.getfield 16, 3) := by decide +kernel
theorem dX3_place_73 : decode cX3_place 73 = .ok (.iload_n 1, 1) := by decide +kernel
theorem dX3_place_74 : decode cX3_place 74 = .ok (.iload 5, 2) := by decide +kernel
theorem dX3_place_76 : decode cX3_place 76 = .ok (.invokevirtual 115, 3) := by decide +kernel
theorem dX3_place_79 : decode cX3_place 79 = .ok (.aload_n 0, 1) := by decide +kernel
theorem dX3_place_80 : decode cX3_place 80 = .ok (.getfield 16, 3) := by decide +kernel
theorem dX3_place_83 : decode cX3_place 83 = .ok (.iload_n 2, 1) := by decide +kernel
theorem dX3_place_84 : decode cX3_place 84 = .ok (.invokevirtual 127, 3) := by decide +kernel
theorem dX3_place_87 : decode cX3_place 87 = .ok (.istore 6, 2) := by decide +kernel
theorem dX3_place_89 : decode cX3_place 89 = .ok (.iload 6, 2) := by decide +kernel
theorem dX3_place_91 : decode cX3_place 91 = .ok (.iload_n 3, 1) := by decide +kernel
theorem dX3_place_92 : decode cX3_place 92 = .ok (.if_icmp .le 10, 3) := by decide +kernel
theorem dX3_place_95 : decode cX3_place 95 = .ok (.iload 6, 2) := by decide +kernel
theorem dX3_place_97 : decode cX3_place 97 = .ok (.istore_n 3, 1) := by decide +kernel
theorem dX3_place_98 : decode cX3_place 98 = .ok (.iload 5, 2) := by decide +kernel
theorem dX3_place_100 : decode cX3_place 100 = .ok (.istore 4, 2) := by decide +kernel
theorem dX3_place_102 : decode cX3_place 102 = .ok (.iinc 5 1, 3) := by decide +kernel
theorem dX3_place_105 : decode cX3_place 105 = .ok (.goto (-61), 3) := by decide +kernel
theorem dX3_place_108 : decode cX3_place 108 = .ok (.iload 4, 2) := by decide +kernel
theorem dX3_place_110 : decode cX3_place 110 = .ok (.ifCond .ge 12, 3) := by decide +kernel
theorem dX3_place_113 : decode cX3_place 113 = .ok (.aload_n 0, 1) := by decide +kernel
theorem dX3_place_114 : decode cX3_place 114 = .ok (.ldc 136, 2) := by decide +kernel
theorem dX3_place_116 : decode cX3_place 116 = .ok (.invokevirtual 49, 3) := by decide +kernel
theorem dX3_place_119 : decode cX3_place 119 = .ok (.goto 5, 3) := by decide +kernel
theorem dX3_place_122 : decode cX3_place 122 = .ok (.iload 4, 2) := by decide +kernel
theorem dX3_place_124 : decode cX3_place 124 = .ok (.ireturn, 1) := by decide +kernel
theorem dX3_kind_0 : decode cX3_kind 0 = .ok (.aload_n 0, 1) := by decide +kernel
theorem dX3_kind_1 : decode cX3_kind 1 = .ok (.iload_n 1, 1) := by decide +kernel
theorem dX3_kind_2 : decode cX3_kind 2 = .ok (.invokevirtual 84, 3) := by decide +kernel
theorem dX3_kind_5 : decode cX3_kind 5 = .ok (.ifCond .eq 13, 3) := by decide +kernel
theorem dX3_kind_8 : decode cX3_kind 8 = .ok (.iload_n 2, 1) := by decide +kernel
theorem dX3_kind_9 : decode cX3_kind 9 = .ok (.iconst 1, 1) := by decide +kernel
theorem dX3_kind_10 : decode cX3_kind 10 = .ok (.bipush 100, 2) := by decide +kernel
theorem dX3_kind_12 : decode cX3_kind 12 = .ok (.invokestatic 44, 3) := by decide +kernel
theorem dX3_kind_15 : decode cX3_kind 15 = .ok (.ifCond .ne 10, 3) := by decide +kernel
theorem dX3_kind_18 : decode cX3_kind 18 = .ok (.aload_n 0, 1) := by decide +kernel
theorem dX3_kind_19 : decode cX3_kind 19 = .ok (.ldc 48, 2) := by decide +kernel
theorem dX3_kind_21 : decode cX3_kind 21 = .ok (.invokevirtual 49, 3) := by decide +kernel
theorem dX3_kind_24 : decode cX3_kind 24 = .ok (.ireturn, 1) := by decide +kernel
theorem dX3_kind_25 : decode cX3_kind 25 = .ok (.sipush (-10000), 3) := by decide +kernel
theorem dX3_kind_28 : decode cX3_kind 28 = .ok (.istore_n 3, 1) := by decide +kernel
theorem dX3_kind_29 : decode cX3_kind 29 = .ok (.iconst 0, 1) := by decide +kernel
theorem dX3_kind_30 : decode cX3_kind 30 = .ok (.istore 4, 2) := by decide +kernel
theorem dX3_kind_32 : decode cX3_kind 32 = .ok (.iconst 0, 1) := by decide +kernel
theorem dX3_kind_33 : decode cX3_kind 33 = .ok (.istore 5, 2) := by decide +kernel
theorem dX3_kind_35 : decode cX3_kind 35 = .ok (.iload 5, 2) := by decide +kernel
theorem dX3_kind_37 : decode cX3_kind 37 = .ok (.bipush 6, 2) := by decide +kernel
theorem dX3_kind_39 : decode cX3_kind 39 = .ok (.if_icmp .ge 59, 3) := by decide +kernel
theorem dX3_kind_42 : decode cX3_kind 42 = .ok (.aload_n 0, 1) := by decide +kernel
theorem dX3_kind_43 : decode cX3_kind 43 = .ok (.invokevirtual 124, 3) := by decide +kernel
theorem dX3_kind_46 : decode cX3_kind 46 = .ok (.aload_n 0, 1) := by decide +kernel
theorem dX3_kind_47 : decode cX3_kind 47 = .ok (.getfield 16, 3) := by decide +kernel
theorem dX3_kind_50 : decode cX3_kind 50 = .ok (.getfield 88, 3) := by decide +kernel
theorem dX3_kind_53 : decode cX3_kind 53 = .ok (.iload_n 1, 1) := by decide +kernel
theorem dX3_kind_54 : decode cX3_kind 54 = .ok (.iload 5, 2) := by decide +kernel
theorem dX3_kind_56 : decode cX3_kind 56 = .ok (.iastore, 1) := by decide +kernel
theorem dX3_kind_57 : decode cX3_kind 57 = .ok (.aload_n 0, 1) := by decide +kernel
theorem dX3_kind_58 : decode cX3_kind 58 = .ok (.getfield 16, 3) := by decide +kernel
theorem dX3_kind_61 : decode cX3_kind 61 = .ok (.iload_n 2, 1) := by decide +kernel
theorem dX3_kind_62 : decode cX3_kind 62 = .ok (.invokevirtual 120, 3) := by decide +kernel
theorem dX3_kind_65 : decode cX3_kind 65 = .ok (.aload_n 0, 1) := by decide +kernel
theorem dX3_kind_66 : decode cX3_kind 66 = .ok (.getfield 16, 3) := by decide +kernel
theorem dX3_kind_69 : decode cX3_kind 69 = .ok (.getfield 94, 3) := by decide +kernel
theorem dX3_kind_72 : decode cX3_kind 72 = .ok (.iload_n 1, 1) := by decide +kernel
theorem dX3_kind_73 : decode cX3_kind 73 = .ok (.iaload, 1) := by decide +kernel
theorem dX3_kind_74 : decode cX3_kind 74 = .ok (.iload_n 3, 1) := by decide +kernel
theorem dX3_kind_75 : decode cX3_kind 75 = .ok (.if_icmp .le 17, 3) := by decide +kernel
theorem dX3_kind_78 : decode cX3_kind 78 = .ok (.aload_n 0, 1) := by decide +kernel
theorem dX3_kind_79 : decode cX3_kind 79 = .ok (.getfield 16, 3) := by decide +kernel
theorem dX3_kind_82 : decode cX3_kind 82 = .ok (.getfield 94, 3) := by decide +kernel
theorem dX3_kind_85 : decode cX3_kind 85 = .ok (.iload_n 1, 1) := by decide +kernel
theorem dX3_kind_86 : decode cX3_kind 86 = .ok (.iaload, 1) := by decide +kernel
theorem dX3_kind_87 : decode cX3_kind 87 = .ok (.istore_n 3, 1) := by decide +kernel
theorem dX3_kind_88 : decode cX3_kind 88 = .ok (.iload 5, 2) := by decide +kernel
theorem dX3_kind_90 : decode cX3_kind 90 = .ok (.istore 4, 2) := by decide +kernel
theorem dX3_kind_92 : decode cX3_kind 92 = .ok (.iinc 5 1, 3) := by decide +kernel
theorem dX3_kind_95 : decode cX3_kind 95 = .ok (.goto (-60), 3) := by decide +kernel
theorem dX3_kind_98 : decode cX3_kind 98 = .ok (.iload 4, 2) := by decide +kernel
theorem dX3_kind_100 : decode cX3_kind 100 = .ok (.ireturn, 1) := by decide +kernel
theorem dX3_fresh_0 : decode cX3_fresh 0 = .ok (.aload_n 0, 1) := by decide +kernel
theorem dX3_fresh_1 : decode cX3_fresh 1 = .ok (.iload_n 1, 1) := by decide +kernel
theorem dX3_fresh_2 : decode cX3_fresh 2 = .ok (.invokevirtual 84, 3) := by decide +kernel
theorem dX3_fresh_5 : decode cX3_fresh 5 = .ok (.ifCond .eq 26, 3) := by decide +kernel
theorem dX3_fresh_8 : decode cX3_fresh 8 = .ok (.iload_n 2, 1) := by decide +kernel
theorem dX3_fresh_9 : decode cX3_fresh 9 = .ok (.iconst 1, 1) := by decide +kernel
theorem dX3_fresh_10 : decode cX3_fresh 10 = .ok (.bipush 100, 2) := by decide +kernel
theorem dX3_fresh_12 : decode cX3_fresh 12 = .ok (.invokestatic 44, 3) := by decide +kernel
theorem dX3_fresh_15 : decode cX3_fresh 15 = .ok (.ifCond .eq 16, 3) := by decide +kernel
theorem dX3_fresh_18 : decode cX3_fresh 18 = .ok (.iload_n 3, 1) := by decide +kernel
theorem dX3_fresh_19 : decode cX3_fresh 19 = .ok (.sipush (-9999), 3) := by decide +kernel
theorem dX3_fresh_22 : decode cX3_fresh 22 = .ok (.sipush 9999, 3) := by decide +kernel
theorem dX3_fresh_25 : decode cX3_fresh 25 = .ok (.invokestatic 44, 3) := by decide +kernel
theorem dX3_fresh_28 : decode cX3_fresh 28 = .ok (.ifCond .ne 10, 3) := by decide +kernel
theorem dX3_fresh_31 : decode cX3_fresh 31 = .ok (.aload_n 0, 1) := by decide +kernel
theorem dX3_fresh_32 : decode cX3_fresh 32 = .ok (.ldc 48, 2) := by decide +kernel
theorem dX3_fresh_34 : decode cX3_fresh 34 = .ok (.invokevirtual 49, 3) := by decide +kernel
theorem dX3_fresh_37 : decode cX3_fresh 37 = .ok (.ireturn, 1) := by decide +kernel
theorem dX3_fresh_38 : decode cX3_fresh 38 = .ok (.iconst 0, 1) := by decide +kernel
theorem dX3_fresh_39 : decode cX3_fresh 39 = .ok (.istore 4, 2) := by decide +kernel
theorem dX3_fresh_41 : decode cX3_fresh 41 = .ok (.iload 4, 2) := by decide +kernel
theorem dX3_fresh_43 : decode cX3_fresh 43 = .ok (.bipush 99, 2) := by decide +kernel
theorem dX3_fresh_45 : decode cX3_fresh 45 = .ok (.if_icmp .gt 48, 3) := by decide +kernel
theorem dX3_fresh_48 : decode cX3_fresh 48 = .ok (.aload_n 0, 1) := by decide +kernel
theorem dX3_fresh_49 : decode cX3_fresh 49 = .ok (.invokevirtual 124, 3) := by decide +kernel
theorem dX3_fresh_52 : decode cX3_fresh 52 = .ok (.aload_n 0, 1) := by decide +kernel
theorem dX3_fresh_53 : decode cX3_fresh 53 = .ok (.getfield 16, 3) := by decide +kernel
theorem dX3_fresh_56 : decode cX3_fresh 56 = .ok (.getfield 91, 3) := by decide +kernel
theorem dX3_fresh_59 : decode cX3_fresh 59 = .ok (.iload_n 1, 1) := by decide +kernel
theorem dX3_fresh_60 : decode cX3_fresh 60 = .ok (.iload 4, 2) := by decide +kernel
theorem dX3_fresh_62 : decode cX3_fresh 62 = .ok (.iastore, 1) := by decide +kernel
theorem dX3_fresh_63 : decode cX3_fresh 63 = .ok (.aload_n 0, 1) := by decide +kernel
theorem dX3_fresh_64 : decode cX3_fresh 64 = .ok (.getfield 16, 3) := by decide +kernel
theorem dX3_fresh_67 : decode cX3_fresh 67 = .ok (.iload_n 2, 1) := by decide +kernel
theorem dX3_fresh_68 : decode cX3_fresh 68 = .ok (.invokevirtual 120, 3) := by decide +kernel
theorem dX3_fresh_71 : decode cX3_fresh 71 = .ok (.aload_n 0, 1) := by decide +kernel
theorem dX3_fresh_72 : decode cX3_fresh 72 = .ok (.getfield 16, 3) := by decide +kernel
theorem dX3_fresh_75 : decode cX3_fresh 75 = .ok (.getfield 94, 3) := by decide +kernel
theorem dX3_fresh_78 : decode cX3_fresh 78 = .ok (.iload_n 1, 1) := by decide +kernel
theorem dX3_fresh_79 : decode cX3_fresh 79 = .ok (.iaload, 1) := by decide +kernel
theorem dX3_fresh_80 : decode cX3_fresh 80 = .ok (.iload_n 3, 1) := by decide +kernel
theorem dX3_fresh_81 : decode cX3_fresh 81 = .ok (.if_icmp .lt 6, 3) := by decide +kernel
theorem dX3_fresh_84 : decode cX3_fresh 84 = .ok (.iload 4, 2) := by decide +kernel
theorem dX3_fresh_86 : decode cX3_fresh 86 = .ok (.ireturn, 1) := by decide +kernel
theorem dX3_fresh_87 : decode cX3_fresh 87 = .ok (.iinc 4 1, 3) := by decide +kernel
theorem dX3_fresh_90 : decode cX3_fresh 90 = .ok (.goto (-49), 3) := by decide +kernel
theorem dX3_fresh_93 : decode cX3_fresh 93 = .ok (.aload_n 0, 1) := by decide +kernel
theorem dX3_fresh_94 : decode cX3_fresh 94 = .ok (.ldc 136, 2) := by decide +kernel
theorem dX3_fresh_96 : decode cX3_fresh 96 = .ok (.invokevirtual 49, 3) := by decide +kernel
theorem dX3_fresh_99 : decode cX3_fresh 99 = .ok (.ireturn, 1) := by decide +kernel
theorem dX3_cue_0 : decode cX3_cue 0 = .ok (.iload_n 1, 1) := by decide +kernel
theorem dX3_cue_1 : decode cX3_cue 1 = .ok (.iconst 1, 1) := by decide +kernel
theorem dX3_cue_2 : decode cX3_cue 2 = .ok (.bipush 60, 2) := by decide +kernel
theorem dX3_cue_4 : decode cX3_cue 4 = .ok (.invokestatic 44, 3) := by decide +kernel
theorem dX3_cue_7 : decode cX3_cue 7 = .ok (.ifCond .ne 10, 3) := by decide +kernel
theorem dX3_cue_10 : decode cX3_cue 10 = .ok (.aload_n 0, 1) := by decide +kernel
theorem dX3_cue_11 : decode cX3_cue 11 = .ok (.ldc 48, 2) := by decide +kernel
theorem dX3_cue_13 : decode cX3_cue 13 = .ok (.invokevirtual 49, 3) := by decide +kernel
theorem dX3_cue_16 : decode cX3_cue 16 = .ok (.ireturn, 1) := by decide +kernel
theorem dX3_cue_17 : decode cX3_cue 17 = .ok (.ldc 137, 2) := by decide +kernel
theorem dX3_cue_19 : decode cX3_cue 19 = .ok (.istore_n 2, 1) := by decide +kernel
theorem dX3_cue_20 : decode cX3_cue 20 = .ok (.iconst 0, 1) := by decide +kernel
theorem dX3_cue_21 : decode cX3_cue 21 = .ok (.istore_n 3, 1) := by decide +kernel
theorem dX3_cue_22 : decode cX3_cue 22 = .ok (.iconst 0, 1) := by decide +kernel
theorem dX3_cue_23 : decode cX3_cue 23 = .ok (.istore 4, 2) := by decide +kernel
theorem dX3_cue_25 : decode cX3_cue 25 = .ok (.iload 4, 2) := by decide +kernel
theorem dX3_cue_27 : decode cX3_cue 27 = .ok (.bipush 80, 2) := by decide +kernel
theorem dX3_cue_29 : decode cX3_cue 29 = .ok (.if_icmp .ge 53, 3) := by decide +kernel
theorem dX3_cue_32 : decode cX3_cue 32 = .ok (.aload_n 0, 1) := by decide +kernel
theorem dX3_cue_33 : decode cX3_cue 33 = .ok (.invokevirtual 124, 3) := by decide +kernel
theorem dX3_cue_36 : decode cX3_cue 36 = .ok (.aload_n 0, 1) := by decide +kernel
theorem dX3_cue_37 : decode cX3_cue 37 = .ok (.getfield 16, 3) := by decide +kernel
theorem dX3_cue_40 : decode cX3_cue 40 = .ok (.getfield 53, 3) := by decide +kernel
theorem dX3_cue_43 : decode cX3_cue 43 = .ok (.iload 4, 2) := by decide +kernel
theorem dX3_cue_45 : decode cX3_cue 45 = .ok (.bipush 16, 2) := by decide +kernel
theorem dX3_cue_47 : decode cX3_cue 47 = .ok (.irem, 1) := by decide +kernel
theorem dX3_cue_48 : decode cX3_cue 48 = .ok (.iload 4, 2) := by decide +kernel
theorem dX3_cue_50 : decode cX3_cue 50 = .ok (.bipush 16, 2) := by decide +kernel
theorem dX3_cue_52 : decode cX3_cue 52 = .ok (.idiv, 1) := by decide +kernel
theorem dX3_cue_53 : decode cX3_cue 53 = .ok (.iastore, 1) := by decide +kernel
theorem dX3_cue_54 : decode cX3_cue 54 = .ok (.aload_n 0, 1) := by decide +kernel
theorem dX3_cue_55 : decode cX3_cue 55 = .ok (.getfield 16, 3) := by decide +kernel
theorem dX3_cue_58 : decode cX3_cue 58 = .ok (.iload_n 1, 1) := by decide +kernel
theorem dX3_cue_59 : decode cX3_cue 59 = .ok (.invokevirtual 127, 3) := by decide +kernel
theorem dX3_cue_62 : decode cX3_cue 62 = .ok (.istore 5, 2) := by decide +kernel
theorem dX3_cue_64 : decode cX3_cue 64 = .ok (.iload 5, 2) := by decide +kernel
theorem dX3_cue_66 : decode cX3_cue 66 = .ok (.iload_n 2, 1) := by decide +kernel
theorem dX3_cue_67 : decode cX3_cue 67 = .ok (.if_icmp .le 9, 3) := by decide +kernel
theorem dX3_cue_70 : decode cX3_cue 70 = .ok (.iload 5, 2) := by decide +kernel
theorem dX3_cue_72 : decode cX3_cue 72 = .ok (.istore_n 2, 1) := by decide +kernel
theorem dX3_cue_73 : decode cX3_cue 73 = .ok (.iload 4, 2) := by decide +kernel
theorem dX3_cue_75 : decode cX3_cue 75 = .ok (.istore_n 3, 1) := by decide +kernel
theorem dX3_cue_76 : decode cX3_cue 76 = .ok (.iinc 4 1, 3) := by decide +kernel
theorem dX3_cue_79 : decode cX3_cue 79 = .ok (.goto (-54), 3) := by decide +kernel
theorem dX3_cue_82 : decode cX3_cue 82 = .ok (.iload_n 3, 1) := by decide +kernel
theorem dX3_cue_83 : decode cX3_cue 83 = .ok (.ireturn, 1) := by decide +kernel
theorem dX3_doze_0 : decode cX3_doze 0 = .ok (.iload_n 1, 1) := by decide +kernel
theorem dX3_doze_1 : decode cX3_doze 1 = .ok (.iconst 1, 1) := by decide +kernel
theorem dX3_doze_2 : decode cX3_doze 2 = .ok (.bipush 100, 2) := by decide +kernel
theorem dX3_doze_4 : decode cX3_doze 4 = .ok (.invokestatic 44, 3) := by decide +kernel
theorem dX3_doze_7 : decode cX3_doze 7 = .ok (.ifCond .ne 10, 3) := by decide +kernel
theorem dX3_doze_10 : decode cX3_doze 10 = .ok (.aload_n 0, 1) := by decide +kernel
theorem dX3_doze_11 : decode cX3_doze 11 = .ok (.ldc 48, 2) := by decide +kernel
theorem dX3_doze_13 : decode cX3_doze 13 = .ok (.invokevirtual 49, 3) := by decide +kernel
theorem dX3_doze_16 : decode cX3_doze 16 = .ok (.ireturn, 1) := by decide +kernel
theorem dX3_doze_17 : decode cX3_doze 17 = .ok (.ldc 138, 2) := by decide +kernel
theorem dX3_doze_19 : decode cX3_doze 19 = .ok (.istore_n 2, 1) := by decide +kernel
theorem dX3_doze_20 : decode cX3_doze 20 = .ok (.iconst (-1), 1) := by decide +kernel
theorem dX3_doze_21 : decode cX3_doze 21 = .ok (.istore_n 3, 1) := by decide +kernel
theorem dX3_doze_22 : decode cX3_doze 22 = .ok (.iconst 0, 1) := by decide +kernel
theorem dX3_doze_23 : decode cX3_doze 23 = .ok (.istore 4, 2) := by decide +kernel
theorem dX3_doze_25 : decode cX3_doze 25 = .ok (.iload 4, 2) := by decide +kernel
theorem dX3_doze_27 : decode cX3_doze 27 = .ok (.aload_n 0, 1) := by decide +kernel
theorem dX3_doze_28 : decode cX3_doze 28 = .ok (.getfield 12, 3) := by decide +kernel
theorem dX3_doze_31 : decode cX3_doze 31 = .ok (.getfield 76, 3) := by decide +kernel
theorem dX3_doze_34 : decode cX3_doze 34 = .ok (.if_icmp .ge 46, 3) := by decide +kernel
theorem dX3_doze_37 : decode cX3_doze 37 = .ok (.aload_n 0, 1) := by decide +kernel
theorem dX3_doze_38 : decode cX3_doze 38 = .ok (.invokevirtual 124, 3) := by decide +kernel
theorem dX3_doze_41 : decode cX3_doze 41 = .ok (.aload_n 0, 1) := by decide +kernel
theorem dX3_doze_42 : decode cX3_doze 42 = .ok (.getfield 16, 3) := by decide +kernel
theorem dX3_doze_45 : decode cX3_doze 45 = .ok (.getfield 88, 3) := by decide +kernel
theorem dX3_doze_48 : decode cX3_doze 48 = .ok (.iload 4, 2) := by decide +kernel
theorem dX3_doze_50 : decode cX3_doze 50 = .ok (.iconst 3, 1) := by decide +kernel
theorem dX3_doze_51 : decode cX3_doze 51 = .ok (.iastore, 1) := by decide +kernel
theorem dX3_doze_52 : decode cX3_doze 52 = .ok (.aload_n 0, 1) := by decide +kernel
theorem dX3_doze_53 : decode cX3_doze 53 = .ok (.getfield 16, 3) := by decide +kernel
theorem dX3_doze_56 : decode cX3_doze 56 = .ok (.iload_n 1, 1) := by decide +kernel
theorem dX3_doze_57 : decode cX3_doze 57 = .ok (.invokevirtual 127, 3) := by decide +kernel
theorem dX3_doze_60 : decode cX3_doze 60 = .ok (.istore 5, 2) := by decide +kernel
theorem dX3_doze_62 : decode cX3_doze 62 = .ok (.iload 5, 2) := by decide +kernel
theorem dX3_doze_64 : decode cX3_doze 64 = .ok (.iload_n 2, 1) := by decide +kernel
theorem dX3_doze_65 : decode cX3_doze 65 = .ok (.if_icmp .ge 9, 3) := by decide +kernel
theorem dX3_doze_68 : decode cX3_doze 68 = .ok (.iload 5, 2) := by decide +kernel
theorem dX3_doze_70 : decode cX3_doze 70 = .ok (.istore_n 2, 1) := by decide +kernel
theorem dX3_doze_71 : decode cX3_doze 71 = .ok (.iload 4, 2) := by decide +kernel
theorem dX3_doze_73 : decode cX3_doze 73 = .ok (.istore_n 3, 1) := by decide +kernel
theorem dX3_doze_74 : decode cX3_doze 74 = .ok (.iinc 4 1, 3) := by decide +kernel
theorem dX3_doze_77 : decode cX3_doze 77 = .ok (.goto (-52), 3) := by decide +kernel
theorem dX3_doze_80 : decode cX3_doze 80 = .ok (.iload_n 3, 1) := by decide +kernel
theorem dX3_doze_81 : decode cX3_doze 81 = .ok (.ifCond .ge 12, 3) := by decide +kernel
theorem dX3_doze_84 : decode cX3_doze 84 = .ok (.aload_n 0, 1) := by decide +kernel
theorem dX3_doze_85 : decode cX3_doze 85 = .ok (.ldc 136, 2) := by decide +kernel
theorem dX3_doze_87 : decode cX3_doze 87 = .ok (.invokevirtual 49, 3) := by decide +kernel
theorem dX3_doze_90 : decode cX3_doze 90 = .ok (.goto 4, 3) := by decide +kernel
theorem dX3_doze_93 : decode cX3_doze 93 = .ok (.iload_n 3, 1) := by decide +kernel
theorem dX3_doze_94 : decode cX3_doze 94 = .ok (.ireturn, 1) := by decide +kernel
theorem dX3_tense_0 : decode cX3_tense 0 = .ok (.iload_n 1, 1) := by decide +kernel
theorem dX3_tense_1 : decode cX3_tense 1 = .ok (.iconst 1, 1) := by decide +kernel
theorem dX3_tense_2 : decode cX3_tense 2 = .ok (.bipush 100, 2) := by decide +kernel
theorem dX3_tense_4 : decode cX3_tense 4 = .ok (.invokestatic 44, 3) := by decide +kernel
theorem dX3_tense_7 : decode cX3_tense 7 = .ok (.ifCond .eq 16, 3) := by decide +kernel
theorem dX3_tense_10 : decode cX3_tense 10 = .ok (.iload_n 2, 1) := by decide +kernel
theorem dX3_tense_11 : decode cX3_tense 11 = .ok (.sipush (-9999), 3) := by decide +kernel
theorem dX3_tense_14 : decode cX3_tense 14 = .ok (.sipush 9999, 3) := by decide +kernel
theorem dX3_tense_17 : decode cX3_tense 17 = .ok (.invokestatic 44, 3) := by decide +kernel
theorem dX3_tense_20 : decode cX3_tense 20 = .ok (.ifCond .ne 10, 3) := by decide +kernel
theorem dX3_tense_23 : decode cX3_tense 23 = .ok (.aload_n 0, 1) := by decide +kernel
theorem dX3_tense_24 : decode cX3_tense 24 = .ok (.ldc 48, 2) := by decide +kernel
theorem dX3_tense_26 : decode cX3_tense 26 = .ok (.invokevirtual 49, 3) := by decide +kernel
theorem dX3_tense_29 : decode cX3_tense 29 = .ok (.ireturn, 1) := by decide +kernel
theorem dX3_tense_30 : decode cX3_tense 30 = .ok (.bipush 20, 2) := by decide +kernel
theorem dX3_tense_32 : decode cX3_tense 32 = .ok (.istore_n 3, 1) := by decide +kernel
theorem dX3_tense_33 : decode cX3_tense 33 = .ok (.iload_n 3, 1) := by decide +kernel
theorem dX3_tense_34 : decode cX3_tense 34 = .ok (.ifCond .lt 35, 3) := by decide +kernel
theorem dX3_tense_37 : decode cX3_tense 37 = .ok (.aload_n 0, 1) := by decide +kernel
theorem dX3_tense_38 : decode cX3_tense 38 = .ok (.invokevirtual 124, 3) := by decide +kernel
theorem dX3_tense_41 : decode cX3_tense 41 = .ok (.aload_n 0, 1) := by decide +kernel
theorem dX3_tense_42 : decode cX3_tense 42 = .ok (.getfield 16, 3) := by decide +kernel
theorem dX3_tense_45 : decode cX3_tense 45 = .ok (.iload_n 3, 1) := by decide +kernel
theorem dX3_tense_46 : decode cX3_tense 46 = .ok (.invokevirtual 139, 3) := by decide +kernel
theorem dX3_tense_49 : decode cX3_tense 49 = .ok (.aload_n 0, 1) := by decide +kernel
theorem dX3_tense_50 : decode cX3_tense 50 = .ok (.getfield 16, 3) := by decide +kernel
theorem dX3_tense_53 : decode cX3_tense 53 = .ok (.iload_n 1, 1) := by decide +kernel
theorem dX3_tense_54 : decode cX3_tense 54 = .ok (.invokevirtual 127, 3) := by decide +kernel
theorem dX3_tense_57 : decode cX3_tense 57 = .ok (.iload_n 2, 1) := by decide +kernel
theorem dX3_tense_58 : decode cX3_tense 58 = .ok (.if_icmp .lt 5, 3) := by decide +kernel
theorem dX3_tense_61 : decode cX3_tense 61 = .ok (.iload_n 3, 1) := by decide +kernel
theorem dX3_tense_62 : decode cX3_tense 62 = .ok (.ireturn, 1) := by decide +kernel
theorem dX3_tense_63 : decode cX3_tense 63 = .ok (.iinc 3 (-1), 3) := by decide +kernel
theorem dX3_tense_66 : decode cX3_tense 66 = .ok (.goto (-33), 3) := by decide +kernel
theorem dX3_tense_69 : decode cX3_tense 69 = .ok (.aload_n 0, 1) := by decide +kernel
theorem dX3_tense_70 : decode cX3_tense 70 = .ok (.ldc 136, 2) := by decide +kernel
theorem dX3_tense_72 : decode cX3_tense 72 = .ok (.invokevirtual 49, 3) := by decide +kernel
theorem dX3_tense_75 : decode cX3_tense 75 = .ok (.ireturn, 1) := by decide +kernel
theorem dX3_best_0 : decode cX3_best 0 = .ok (.iload_n 1, 1) := by decide +kernel
theorem dX3_best_1 : decode cX3_best 1 = .ok (.iconst 0, 1) := by decide +kernel
theorem dX3_best_2 : decode cX3_best 2 = .ok (.sipush 400, 3) := by decide +kernel
theorem dX3_best_5 : decode cX3_best 5 = .ok (.invokestatic 44, 3) := by decide +kernel
theorem dX3_best_8 : decode cX3_best 8 = .ok (.ifCond .ne 10, 3) := by decide +kernel
theorem dX3_best_11 : decode cX3_best 11 = .ok (.aload_n 0, 1) := by decide +kernel
theorem dX3_best_12 : decode cX3_best 12 = .ok (.ldc 48, 2) := by decide +kernel
theorem dX3_best_14 : decode cX3_best 14 = .ok (.invokevirtual 49, 3) := by decide +kernel
theorem dX3_best_17 : decode cX3_best 17 = .ok (.ireturn, 1) := by decide +kernel
theorem dX3_best_18 : decode cX3_best 18 = .ok (.aload_n 0, 1) := by decide +kernel
theorem dX3_best_19 : decode cX3_best 19 = .ok (.invokevirtual 124, 3) := by decide +kernel
theorem dX3_best_22 : decode cX3_best 22 = .ok (.aload_n 0, 1) := by decide +kernel
theorem dX3_best_23 : decode cX3_best 23 = .ok (.getfield 16, 3) := by decide +kernel
theorem dX3_best_26 : decode cX3_best 26 = .ok (.iload_n 1, 1) := by decide +kernel
theorem dX3_best_27 : decode cX3_best 27 = .ok (.invokevirtual 120, 3) := by decide +kernel
theorem dX3_best_30 : decode cX3_best 30 = .ok (.sipush (-10000), 3) := by decide +kernel
theorem dX3_best_33 : decode cX3_best 33 = .ok (.istore_n 2, 1) := by decide +kernel
theorem dX3_best_34 : decode cX3_best 34 = .ok (.iconst (-1), 1) := by decide +kernel
theorem dX3_best_35 : decode cX3_best 35 = .ok (.istore_n 3, 1) := by decide +kernel
theorem dX3_best_36 : decode cX3_best 36 = .ok (.iconst 0, 1) := by decide +kernel
theorem dX3_best_37 : decode cX3_best 37 = .ok (.istore 4, 2) := by decide +kernel
theorem dX3_best_39 : decode cX3_best 39 = .ok (.iload 4, 2) := by decide +kernel
theorem dX3_best_41 : decode cX3_best 41 = .ok (.aload_n 0, 1) := by decide +kernel
theorem dX3_best_42 : decode cX3_best 42 = .ok (.getfield 16, 3) := by decide +kernel
theorem dX3_best_45 : decode cX3_best 45 = .ok (.getfield 76, 3) := by decide +kernel
theorem dX3_best_48 : decode cX3_best 48 = .ok (.if_icmp .ge 37, 3) := by decide +kernel
theorem dX3_best_51 : decode cX3_best 51 = .ok (.aload_n 0, 1) := by decide +kernel
theorem dX3_best_52 : decode cX3_best 52 = .ok (.getfield 16, 3) := by decide +kernel
theorem dX3_best_55 : decode cX3_best 55 = .ok (.getfield 94, 3) := by decide +kernel
theorem dX3_best_58 : decode cX3_best 58 = .ok (.iload 4, 2) := by decide +kernel
theorem dX3_best_60 : decode cX3_best 60 = .ok (.iaload, 1) := by decide +kernel
theorem dX3_best_61 : decode cX3_best 61 = .ok (.iload_n 2, 1) := by decide +kernel
theorem dX3_best_62 : decode cX3_best 62 = .ok (.if_icmp .le 17, 3) := by decide +kernel
theorem dX3_best_65 : decode cX3_best 65 = .ok (.aload_n 0, 1) := by decide +kernel
theorem dX3_best_66 : decode cX3_best 66 = .ok (.getfield 16, 3) := by decide +kernel
theorem dX3_best_69 : decode cX3_best 69 = .ok (.getfield 94, 3) := by decide +kernel
theorem dX3_best_72 : decode cX3_best 72 = .ok (.iload 4, 2) := by decide +kernel
theorem dX3_best_74 : decode cX3_best 74 = .ok (.iaload, 1) := by decide +kernel
theorem dX3_best_75 : decode cX3_best 75 = .ok (.istore_n 2, 1) := by decide +kernel
theorem dX3_best_76 : decode cX3_best 76 = .ok (.iload 4, 2) := by decide +kernel
theorem dX3_best_78 : decode cX3_best 78 = .ok (.istore_n 3, 1) := by decide +kernel
theorem dX3_best_79 : decode cX3_best 79 = .ok (.iinc 4 1, 3) := by decide +kernel
theorem dX3_best_82 : decode cX3_best 82 = .ok (.goto (-43), 3) := by decide +kernel
theorem dX3_best_85 : decode cX3_best 85 = .ok (.iload_n 3, 1) := by decide +kernel
theorem dX3_best_86 : decode cX3_best 86 = .ok (.ifCond .ge 12, 3) := by decide +kernel
theorem dX3_best_89 : decode cX3_best 89 = .ok (.aload_n 0, 1) := by decide +kernel
theorem dX3_best_90 : decode cX3_best 90 = .ok (.ldc 136, 2) := by decide +kernel
theorem dX3_best_92 : decode cX3_best 92 = .ok (.invokevirtual 49, 3) := by decide +kernel
theorem dX3_best_95 : decode cX3_best 95 = .ok (.goto 4, 3) := by decide +kernel
theorem dX3_best_98 : decode cX3_best 98 = .ok (.iload_n 3, 1) := by decide +kernel
theorem dX3_best_99 : decode cX3_best 99 = .ok (.ireturn, 1) := by decide +kernel
theorem dX3_feed_0 : decode cX3_feed 0 = .ok (.iload_n 2, 1) := by decide +kernel
theorem dX3_feed_1 : decode cX3_feed 1 = .ok (.iconst 1, 1) := by decide +kernel
theorem dX3_feed_2 : decode cX3_feed 2 = .ok (.iconst 4, 1) := by decide +kernel
theorem dX3_feed_3 : decode cX3_feed 3 = .ok (.invokestatic 44, 3) := by decide +kernel
theorem dX3_feed_6 : decode cX3_feed 6 = .ok (.ifCond .ne 10, 3) := by decide +kernel
theorem dX3_feed_9 : decode cX3_feed 9 = .ok (.aload_n 0, 1) := by decide +kernel
theorem dX3_feed_10 : decode cX3_feed 10 = .ok (.ldc 48, 2) := by decide +kernel
theorem dX3_feed_12 : decode cX3_feed 12 = .ok (.invokevirtual 49, 3) := by decide +kernel
theorem dX3_feed_15 : decode cX3_feed 15 = .ok (.ireturn, 1) := by decide +kernel
theorem dX3_feed_16 : decode cX3_feed 16 = .ok (.aload_n 0, 1) := by decide +kernel
theorem dX3_feed_17 : decode cX3_feed 17 = .ok (.getfield 29, 3) := by decide +kernel
theorem dX3_feed_20 : decode cX3_feed 20 = .ok (.getfield 142, 3) := by decide +kernel
theorem dX3_feed_23 : decode cX3_feed 23 = .ok (.iload_n 2, 1) := by decide +kernel
theorem dX3_feed_24 : decode cX3_feed 24 = .ok (.iadd, 1) := by decide +kernel
theorem dX3_feed_25 : decode cX3_feed 25 = .ok (.bipush 120, 2) := by decide +kernel
theorem dX3_feed_27 : decode cX3_feed 27 = .ok (.if_icmp .le 10, 3) := by decide +kernel
theorem dX3_feed_30 : decode cX3_feed 30 = .ok (.aload_n 0, 1) := by decide +kernel
theorem dX3_feed_31 : decode cX3_feed 31 = .ok (.ldc 79, 2) := by decide +kernel
theorem dX3_feed_33 : decode cX3_feed 33 = .ok (.invokevirtual 49, 3) := by decide +kernel
theorem dX3_feed_36 : decode cX3_feed 36 = .ok (.ireturn, 1) := by decide +kernel
theorem dX3_feed_37 : decode cX3_feed 37 = .ok (.iload_n 2, 1) := by decide +kernel
theorem dX3_feed_38 : decode cX3_feed 38 = .ok (.iconst 1, 1) := by decide +kernel
theorem dX3_feed_39 : decode cX3_feed 39 = .ok (.isub, 1) := by decide +kernel
theorem dX3_feed_40 : decode cX3_feed 40 = .ok (.istore_n 3, 1) := by decide +kernel
theorem dX3_feed_41 : decode cX3_feed 41 = .ok (.iload_n 3, 1) := by decide +kernel
theorem dX3_feed_42 : decode cX3_feed 42 = .ok (.ifCond .lt 23, 3) := by decide +kernel
theorem dX3_feed_45 : decode cX3_feed 45 = .ok (.aload_n 0, 1) := by decide +kernel
theorem dX3_feed_46 : decode cX3_feed 46 = .ok (.getfield 29, 3) := by decide +kernel
theorem dX3_feed_49 : decode cX3_feed 49 = .ok (.iload_n 1, 1) := by decide +kernel
theorem dX3_feed_50 : decode cX3_feed 50 = .ok (.bipush 8, 2) := by decide +kernel
theorem dX3_feed_52 : decode cX3_feed 52 = .ok (.iload_n 3, 1) := by decide +kernel
theorem dX3_feed_53 : decode cX3_feed 53 = .ok (.imul, 1) := by decide +kernel
theorem dX3_feed_54 : decode cX3_feed 54 = .ok (.ishr, 1) := by decide +kernel
theorem dX3_feed_55 : decode cX3_feed 55 = .ok (.i2b, 1) := by decide +kernel
theorem dX3_feed_56 : decode cX3_feed 56 = .ok (.invokevirtual 145, 3) := by decide +kernel
theorem dX3_feed_59 : decode cX3_feed 59 = .ok (.iinc 3 (-1), 3) := by decide +kernel
theorem dX3_feed_62 : decode cX3_feed 62 = .ok (.goto (-21), 3) := by decide +kernel
theorem dX3_feed_65 : decode cX3_feed 65 = .ok (.aload_n 0, 1) := by decide +kernel
theorem dX3_feed_66 : decode cX3_feed 66 = .ok (.getfield 29, 3) := by decide +kernel
theorem dX3_feed_69 : decode cX3_feed 69 = .ok (.getfield 142, 3) := by decide +kernel
theorem dX3_feed_72 : decode cX3_feed 72 = .ok (.ireturn, 1) := by decide +kernel
theorem dX3_wipe_0 : decode cX3_wipe 0 = .ok (.aload_n 0, 1) := by decide +kernel
theorem dX3_wipe_1 : decode cX3_wipe 1 = .ok (.getfield 29, 3) := by decide +kernel
theorem dX3_wipe_4 : decode cX3_wipe 4 = .ok (.getfield 142, 3) := by decide +kernel
theorem dX3_wipe_7 : decode cX3_wipe 7 = .ok (.istore_n 1, 1) := by decide +kernel
theorem dX3_wipe_8 : decode cX3_wipe 8 = .ok (.aload_n 0, 1) := by decide +kernel
theorem dX3_wipe_9 : decode cX3_wipe 9 = .ok (.getfield 29, 3) := by decide +kernel
theorem dX3_wipe_12 : decode cX3_wipe 12 = .ok (.iconst 0, 1) := by decide +kernel
theorem dX3_wipe_13 : decode cX3_wipe 13 = .ok (.putfield 142, 3) := by decide +kernel
theorem dX3_wipe_16 : decode cX3_wipe 16 = .ok (.iload_n 1, 1) := by decide +kernel
theorem dX3_wipe_17 : decode cX3_wipe 17 = .ok (.ireturn, 1) := by decide +kernel
theorem dX3_evening_0 : decode cX3_evening 0 = .ok (.aload_n 0, 1) := by decide +kernel
theorem dX3_evening_1 : decode cX3_evening 1 = .ok (.invokevirtual 124, 3) := by decide +kernel
theorem dX3_evening_4 : decode cX3_evening 4 = .ok (.aload_n 0, 1) := by decide +kernel
theorem dX3_evening_5 : decode cX3_evening 5 = .ok (.getfield 29, 3) := by decide +kernel
theorem dX3_evening_8 : decode cX3_evening 8 = .ok (.aload_n 0, 1) := by decide +kernel
theorem dX3_evening_9 : decode cX3_evening 9 = .ok (.getfield 16, 3) := by decide +kernel
theorem dX3_evening_12 : decode cX3_evening 12 = .ok (.invokevirtual 149, 3) := by decide +kernel
theorem dX3_evening_15 : decode cX3_evening 15 = .ok (.istore_n 1, 1) := by decide +kernel
theorem dX3_evening_16 : decode cX3_evening 16 = .ok (.iload_n 1, 1) := by decide +kernel
theorem dX3_evening_17 : decode cX3_evening 17 = .ok (.ifCond .lt 14, 3) := by decide +kernel
theorem dX3_evening_20 : decode cX3_evening 20 = .ok (.aload_n 0, 1) := by decide +kernel
theorem dX3_evening_21 : decode cX3_evening 21 = .ok (.getfield 12, 3) := by decide +kernel
theorem dX3_evening_24 : decode cX3_evening 24 = .ok (.aload_n 0, 1) := by decide +kernel
theorem dX3_evening_25 : decode cX3_evening 25 = .ok (.getfield 16, 3) := by decide +kernel
theorem dX3_evening_28 : decode cX3_evening 28 = .ok (.invokevirtual 153, 3) := by decide +kernel
theorem dX3_evening_31 : decode cX3_evening 31 = .ok (.aload_n 0, 1) := by decide +kernel
theorem dX3_evening_32 : decode cX3_evening 32 = .ok (.getfield 29, 3) := by decide +kernel
theorem dX3_evening_35 : decode cX3_evening 35 = .ok (.iconst 0, 1) := by decide +kernel
theorem dX3_evening_36 : decode cX3_evening 36 = .ok (.putfield 142, 3) := by decide +kernel
theorem dX3_evening_39 : decode cX3_evening 39 = .ok (.iload_n 1, 1) := by decide +kernel
theorem dX3_evening_40 : decode cX3_evening 40 = .ok (.ireturn, 1) := by decide +kernel
theorem dX3_sheet_0 : decode cX3_sheet 0 = .ok (.iload_n 1, 1) := by decide +kernel
theorem dX3_sheet_1 : decode cX3_sheet 1 = .ok (.invokestatic 157, 3) := by decide +kernel
theorem dX3_sheet_4 : decode cX3_sheet 4 = .ok (.ifCond .eq 25, 3) := by decide +kernel
theorem dX3_sheet_7 : decode cX3_sheet 7 = .ok (.iload_n 2, 1) := by decide +kernel
theorem dX3_sheet_8 : decode cX3_sheet 8 = .ok (.ifCond .eq 28, 3) := by decide +kernel
theorem dX3_sheet_11 : decode cX3_sheet 11 = .ok (.iload_n 2, 1) := by decide +kernel
theorem dX3_sheet_12 : decode cX3_sheet 12 = .ok (.bipush 8, 2) := by decide +kernel
theorem dX3_sheet_14 : decode cX3_sheet 14 = .ok (.if_icmp .eq 22, 3) := by decide +kernel
theorem dX3_sheet_17 : decode cX3_sheet 17 = .ok (.iload_n 2, 1) := by decide +kernel
theorem dX3_sheet_18 : decode cX3_sheet 18 = .ok (.bipush 16, 2) := by decide +kernel
theorem dX3_sheet_20 : decode cX3_sheet 20 = .ok (.if_icmp .eq 16, 3) := by decide +kernel
theorem dX3_sheet_23 : decode cX3_sheet 23 = .ok (.iload_n 2, 1) := by decide +kernel
theorem dX3_sheet_24 : decode cX3_sheet 24 = .ok (.bipush 64, 2) := by decide +kernel
theorem dX3_sheet_26 : decode cX3_sheet 26 = .ok (.if_icmp .eq 10, 3) := by decide +kernel
end
section
theorem dX3_sheet_29 : decode cX3_sheet 29 = .ok (.aload_n 0, 1) := by decide +kernel
theorem dX3_sheet_30 : decode cX3_sheet 30 = .ok (.ldc 48, 2) := by decide +kernel
theorem dX3_sheet_32 : decode cX3_sheet 32 = .ok (.invokevirtual 49, 3) := by decide +kernel
theorem dX3_sheet_35 : decode cX3_sheet 35 = .ok (.ireturn, 1) := by decide +kernel
theorem dX3_sheet_36 : decode cX3_sheet 36 = .ok (.iload_n 3, 1) := by decide +kernel
theorem dX3_sheet_37 : decode cX3_sheet 37 = .ok (.ifCond .ge 10, 3) := by decide +kernel
theorem dX3_sheet_40 : decode cX3_sheet 40 = .ok (.aload_n 0, 1) := by decide +kernel
theorem dX3_sheet_41 : decode cX3_sheet 41 = .ok (.ldc 160, 2) := by decide +kernel
theorem dX3_sheet_43 : decode cX3_sheet 43 = .ok (.invokevirtual 49, 3) := by decide +kernel
theorem dX3_sheet_46 : decode cX3_sheet 46 = .ok (.ireturn, 1) := by decide +kernel
theorem dX3_sheet_47 : decode cX3_sheet 47 = .ok (.iload_n 3, 1) := by decide +kernel
theorem dX3_sheet_48 : decode cX3_sheet 48 = .ok (.bipush 40, 2) := by decide +kernel
theorem dX3_sheet_50 : decode cX3_sheet 50 = .ok (.if_icmp .le 10, 3) := by decide +kernel
theorem dX3_sheet_53 : decode cX3_sheet 53 = .ok (.aload_n 0, 1) := by decide +kernel
theorem dX3_sheet_54 : decode cX3_sheet 54 = .ok (.ldc 48, 2) := by decide +kernel
theorem dX3_sheet_56 : decode cX3_sheet 56 = .ok (.invokevirtual 49, 3) := by decide +kernel
theorem dX3_sheet_59 : decode cX3_sheet 59 = .ok (.ireturn, 1) := by decide +kernel
theorem dX3_sheet_60 : decode cX3_sheet 60 = .ok (.aload_n 0, 1) := by decide +kernel
theorem dX3_sheet_61 : decode cX3_sheet 61 = .ok (.getfield 35, 3) := by decide +kernel
theorem dX3_sheet_64 : decode cX3_sheet 64 = .ok (.iload_n 1, 1) := by decide +kernel
theorem dX3_sheet_65 : decode cX3_sheet 65 = .ok (.aaload, 1) := by decide +kernel
theorem dX3_sheet_66 : decode cX3_sheet 66 = .ok (.iload_n 2, 1) := by decide +kernel
theorem dX3_sheet_67 : decode cX3_sheet 67 = .ok (.iload_n 3, 1) := by decide +kernel
theorem dX3_sheet_68 : decode cX3_sheet 68 = .ok (.invokevirtual 161, 3) := by decide +kernel
theorem dX3_sheet_71 : decode cX3_sheet 71 = .ok (.aload_n 0, 1) := by decide +kernel
theorem dX3_sheet_72 : decode cX3_sheet 72 = .ok (.getfield 35, 3) := by decide +kernel
theorem dX3_sheet_75 : decode cX3_sheet 75 = .ok (.iload_n 1, 1) := by decide +kernel
theorem dX3_sheet_76 : decode cX3_sheet 76 = .ok (.aaload, 1) := by decide +kernel
theorem dX3_sheet_77 : decode cX3_sheet 77 = .ok (.getfield 164, 3) := by decide +kernel
theorem dX3_sheet_80 : decode cX3_sheet 80 = .ok (.ireturn, 1) := by decide +kernel
theorem dX3_write_0 : decode cX3_write 0 = .ok (.iload_n 1, 1) := by decide +kernel
theorem dX3_write_1 : decode cX3_write 1 = .ok (.invokestatic 157, 3) := by decide +kernel
theorem dX3_write_4 : decode cX3_write 4 = .ok (.ifCond .ne 11, 3) := by decide +kernel
theorem dX3_write_7 : decode cX3_write 7 = .ok (.aload_n 0, 1) := by decide +kernel
theorem dX3_write_8 : decode cX3_write 8 = .ok (.ldc 48, 2) := by decide +kernel
theorem dX3_write_10 : decode cX3_write 10 = .ok (.invokevirtual 49, 3) := by decide +kernel
theorem dX3_write_13 : decode cX3_write 13 = .ok (.i2l, 1) := by decide +kernel
theorem dX3_write_14 : decode cX3_write 14 = .ok (.lreturn, 1) := by decide +kernel
theorem dX3_write_15 : decode cX3_write 15 = .ok (.aload_n 0, 1) := by decide +kernel
theorem dX3_write_16 : decode cX3_write 16 = .ok (.getfield 35, 3) := by decide +kernel
theorem dX3_write_19 : decode cX3_write 19 = .ok (.iload_n 1, 1) := by decide +kernel
theorem dX3_write_20 : decode cX3_write 20 = .ok (.aaload, 1) := by decide +kernel
theorem dX3_write_21 : decode cX3_write 21 = .ok (.astore 5, 2) := by decide +kernel
theorem dX3_write_23 : decode cX3_write 23 = .ok (.aload 5, 2) := by decide +kernel
theorem dX3_write_25 : decode cX3_write 25 = .ok (.invokevirtual 167, 3) := by decide +kernel
theorem dX3_write_28 : decode cX3_write 28 = .ok (.ifCond .eq 11, 3) := by decide +kernel
theorem dX3_write_31 : decode cX3_write 31 = .ok (.aload_n 0, 1) := by decide +kernel
theorem dX3_write_32 : decode cX3_write 32 = .ok (.ldc 171, 2) := by decide +kernel
theorem dX3_write_34 : decode cX3_write 34 = .ok (.invokevirtual 49, 3) := by decide +kernel
theorem dX3_write_37 : decode cX3_write 37 = .ok (.i2l, 1) := by decide +kernel
theorem dX3_write_38 : decode cX3_write 38 = .ok (.lreturn, 1) := by decide +kernel
theorem dX3_write_39 : decode cX3_write 39 = .ok (.iload_n 2, 1) := by decide +kernel
theorem dX3_write_40 : decode cX3_write 40 = .ok (.iconst 0, 1) := by decide +kernel
theorem dX3_write_41 : decode cX3_write 41 = .ok (.aload 5, 2) := by decide +kernel
theorem dX3_write_43 : decode cX3_write 43 = .ok (.getfield 164, 3) := by decide +kernel
theorem dX3_write_46 : decode cX3_write 46 = .ok (.iconst 1, 1) := by decide +kernel
theorem dX3_write_47 : decode cX3_write 47 = .ok (.isub, 1) := by decide +kernel
theorem dX3_write_48 : decode cX3_write 48 = .ok (.invokestatic 44, 3) := by decide +kernel
theorem dX3_write_51 : decode cX3_write 51 = .ok (.ifCond .ne 11, 3) := by decide +kernel
theorem dX3_write_54 : decode cX3_write 54 = .ok (.aload_n 0, 1) := by decide +kernel
theorem dX3_write_55 : decode cX3_write 55 = .ok (.ldc 48, 2) := by decide +kernel
theorem dX3_write_57 : decode cX3_write 57 = .ok (.invokevirtual 49, 3) := by decide +kernel
theorem dX3_write_60 : decode cX3_write 60 = .ok (.i2l, 1) := by decide +kernel
theorem dX3_write_61 : decode cX3_write 61 = .ok (.lreturn, 1) := by decide +kernel
theorem dX3_write_62 : decode cX3_write 62 = .ok (.aload 5, 2) := by decide +kernel
theorem dX3_write_64 : decode cX3_write 64 = .ok (.getfield 172, 3) := by decide +kernel
theorem dX3_write_67 : decode cX3_write 67 = .ok (.iload_n 2, 1) := by decide +kernel
theorem dX3_write_68 : decode cX3_write 68 = .ok (.laload, 1) := by decide +kernel
theorem dX3_write_69 : decode cX3_write 69 = .ok (.lstore 6, 2) := by decide +kernel
theorem dX3_write_71 : decode cX3_write 71 = .ok (.aload 5, 2) := by decide +kernel
theorem dX3_write_73 : decode cX3_write 73 = .ok (.iload_n 2, 1) := by decide +kernel
theorem dX3_write_74 : decode cX3_write 74 = .ok (.lload_n 3, 1) := by decide +kernel
theorem dX3_write_75 : decode cX3_write 75 = .ok (.invokevirtual 176, 3) := by decide +kernel
theorem dX3_write_78 : decode cX3_write 78 = .ok (.lload 6, 2) := by decide +kernel
theorem dX3_write_80 : decode cX3_write 80 = .ok (.lreturn, 1) := by decide +kernel
theorem dX3_copy_0 : decode cX3_copy 0 = .ok (.iload_n 1, 1) := by decide +kernel
theorem dX3_copy_1 : decode cX3_copy 1 = .ok (.invokestatic 157, 3) := by decide +kernel
theorem dX3_copy_4 : decode cX3_copy 4 = .ok (.ifCond .eq 10, 3) := by decide +kernel
theorem dX3_copy_7 : decode cX3_copy 7 = .ok (.iload_n 3, 1) := by decide +kernel
theorem dX3_copy_8 : decode cX3_copy 8 = .ok (.invokestatic 157, 3) := by decide +kernel
theorem dX3_copy_11 : decode cX3_copy 11 = .ok (.ifCond .ne 10, 3) := by decide +kernel
theorem dX3_copy_14 : decode cX3_copy 14 = .ok (.aload_n 0, 1) := by decide +kernel
theorem dX3_copy_15 : decode cX3_copy 15 = .ok (.ldc 48, 2) := by decide +kernel
theorem dX3_copy_17 : decode cX3_copy 17 = .ok (.invokevirtual 49, 3) := by decide +kernel
theorem dX3_copy_20 : decode cX3_copy 20 = .ok (.ireturn, 1) := by decide +kernel
theorem dX3_copy_21 : decode cX3_copy 21 = .ok (.aload_n 0, 1) := by decide +kernel
theorem dX3_copy_22 : decode cX3_copy 22 = .ok (.getfield 35, 3) := by decide +kernel
theorem dX3_copy_25 : decode cX3_copy 25 = .ok (.iload_n 1, 1) := by decide +kernel
theorem dX3_copy_26 : decode cX3_copy 26 = .ok (.aaload, 1) := by decide +kernel
theorem dX3_copy_27 : decode cX3_copy 27 = .ok (.astore 6, 2) := by decide +kernel
theorem dX3_copy_29 : decode cX3_copy 29 = .ok (.aload_n 0, 1) := by decide +kernel
theorem dX3_copy_30 : decode cX3_copy 30 = .ok (.getfield 35, 3) := by decide +kernel
theorem dX3_copy_33 : decode cX3_copy 33 = .ok (.iload_n 3, 1) := by decide +kernel
theorem dX3_copy_34 : decode cX3_copy 34 = .ok (.aaload, 1) := by decide +kernel
theorem dX3_copy_35 : decode cX3_copy 35 = .ok (.astore 7, 2) := by decide +kernel
theorem dX3_copy_37 : decode cX3_copy 37 = .ok (.aload 6, 2) := by decide +kernel
theorem dX3_copy_39 : decode cX3_copy 39 = .ok (.invokevirtual 167, 3) := by decide +kernel
theorem dX3_copy_42 : decode cX3_copy 42 = .ok (.ifCond .ne 11, 3) := by decide +kernel
theorem dX3_copy_45 : decode cX3_copy 45 = .ok (.aload 7, 2) := by decide +kernel
theorem dX3_copy_47 : decode cX3_copy 47 = .ok (.invokevirtual 167, 3) := by decide +kernel
theorem dX3_copy_50 : decode cX3_copy 50 = .ok (.ifCond .eq 10, 3) := by decide +kernel
theorem dX3_copy_53 : decode cX3_copy 53 = .ok (.aload_n 0, 1) := by decide +kernel
theorem dX3_copy_54 : decode cX3_copy 54 = .ok (.ldc 171, 2) := by decide +kernel
theorem dX3_copy_56 : decode cX3_copy 56 = .ok (.invokevirtual 49, 3) := by decide +kernel
theorem dX3_copy_59 : decode cX3_copy 59 = .ok (.ireturn, 1) := by decide +kernel
theorem dX3_copy_60 : decode cX3_copy 60 = .ok (.aload 6, 2) := by decide +kernel
theorem dX3_copy_62 : decode cX3_copy 62 = .ok (.getfield 180, 3) := by decide +kernel
theorem dX3_copy_65 : decode cX3_copy 65 = .ok (.aload 7, 2) := by decide +kernel
theorem dX3_copy_67 : decode cX3_copy 67 = .ok (.getfield 180, 3) := by decide +kernel
theorem dX3_copy_70 : decode cX3_copy 70 = .ok (.if_icmp .eq 10, 3) := by decide +kernel
theorem dX3_copy_73 : decode cX3_copy 73 = .ok (.aload_n 0, 1) := by decide +kernel
theorem dX3_copy_74 : decode cX3_copy 74 = .ok (.ldc 114, 2) := by decide +kernel
theorem dX3_copy_76 : decode cX3_copy 76 = .ok (.invokevirtual 49, 3) := by decide +kernel
theorem dX3_copy_79 : decode cX3_copy 79 = .ok (.ireturn, 1) := by decide +kernel
theorem dX3_copy_80 : decode cX3_copy 80 = .ok (.aload 6, 2) := by decide +kernel
theorem dX3_copy_82 : decode cX3_copy 82 = .ok (.iload_n 2, 1) := by decide +kernel
theorem dX3_copy_83 : decode cX3_copy 83 = .ok (.iload 5, 2) := by decide +kernel
theorem dX3_copy_85 : decode cX3_copy 85 = .ok (.invokevirtual 183, 3) := by decide +kernel
theorem dX3_copy_88 : decode cX3_copy 88 = .ok (.ifCond .eq 15, 3) := by decide +kernel
theorem dX3_copy_91 : decode cX3_copy 91 = .ok (.aload 7, 2) := by decide +kernel
theorem dX3_copy_93 : decode cX3_copy 93 = .ok (.iload 4, 2) := by decide +kernel
theorem dX3_copy_95 : decode cX3_copy 95 = .ok (.iload 5, 2) := by decide +kernel
theorem dX3_copy_97 : decode cX3_copy 97 = .ok (.invokevirtual 183, 3) := by decide +kernel
theorem dX3_copy_100 : decode cX3_copy 100 = .ok (.ifCond .ne 10, 3) := by decide +kernel
theorem dX3_copy_103 : decode cX3_copy 103 = .ok (.aload_n 0, 1) := by decide +kernel
theorem dX3_copy_104 : decode cX3_copy 104 = .ok (.ldc 48, 2) := by decide +kernel
theorem dX3_copy_106 : decode cX3_copy 106 = .ok (.invokevirtual 49, 3) := by decide +kernel
theorem dX3_copy_109 : decode cX3_copy 109 = .ok (.ireturn, 1) := by decide +kernel
theorem dX3_copy_110 : decode cX3_copy 110 = .ok (.aload 6, 2) := by decide +kernel
theorem dX3_copy_112 : decode cX3_copy 112 = .ok (.getfield 172, 3) := by decide +kernel
theorem dX3_copy_115 : decode cX3_copy 115 = .ok (.iload_n 2, 1) := by decide +kernel
theorem dX3_copy_116 : decode cX3_copy 116 = .ok (.aload 7, 2) := by decide +kernel
theorem dX3_copy_118 : decode cX3_copy 118 = .ok (.getfield 172, 3) := by decide +kernel
theorem dX3_copy_121 : decode cX3_copy 121 = .ok (.iload 4, 2) := by decide +kernel
theorem dX3_copy_123 : decode cX3_copy 123 = .ok (.iload 5, 2) := by decide +kernel
theorem dX3_copy_125 : decode cX3_copy 125 = .ok (.invokestatic 186, 3) := by decide +kernel
theorem dX3_copy_128 : decode cX3_copy 128 = .ok (.iload 5, 2) := by decide +kernel
theorem dX3_copy_130 : decode cX3_copy 130 = .ok (.ireturn, 1) := by decide +kernel
theorem dX3_lays_0 : decode cX3_lays 0 = .ok (.iload_n 1, 1) := by decide +kernel
theorem dX3_lays_1 : decode cX3_lays 1 = .ok (.invokestatic 157, 3) := by decide +kernel
theorem dX3_lays_4 : decode cX3_lays 4 = .ok (.ifCond .ne 10, 3) := by decide +kernel
theorem dX3_lays_7 : decode cX3_lays 7 = .ok (.aload_n 0, 1) := by decide +kernel
theorem dX3_lays_8 : decode cX3_lays 8 = .ok (.ldc 48, 2) := by decide +kernel
theorem dX3_lays_10 : decode cX3_lays 10 = .ok (.invokevirtual 49, 3) := by decide +kernel
theorem dX3_lays_13 : decode cX3_lays 13 = .ok (.ireturn, 1) := by decide +kernel
theorem dX3_lays_14 : decode cX3_lays 14 = .ok (.aload_n 0, 1) := by decide +kernel
theorem dX3_lays_15 : decode cX3_lays 15 = .ok (.getfield 35, 3) := by decide +kernel
theorem dX3_lays_18 : decode cX3_lays 18 = .ok (.iload_n 1, 1) := by decide +kernel
theorem dX3_lays_19 : decode cX3_lays 19 = .ok (.aaload, 1) := by decide +kernel
theorem dX3_lays_20 : decode cX3_lays 20 = .ok (.astore_n 2, 1) := by decide +kernel
theorem dX3_lays_21 : decode cX3_lays 21 = .ok (.aload_n 2, 1) := by decide +kernel
theorem dX3_lays_22 : decode cX3_lays 22 = .ok (.invokevirtual 167, 3) := by decide +kernel
theorem dX3_lays_25 : decode cX3_lays 25 = .ok (.ifCond .eq 10, 3) := by decide +kernel
theorem dX3_lays_28 : decode cX3_lays 28 = .ok (.aload_n 0, 1) := by decide +kernel
theorem dX3_lays_29 : decode cX3_lays 29 = .ok (.ldc 171, 2) := by decide +kernel
theorem dX3_lays_31 : decode cX3_lays 31 = .ok (.invokevirtual 49, 3) := by decide +kernel
theorem dX3_lays_34 : decode cX3_lays 34 = .ok (.ireturn, 1) := by decide +kernel
theorem dX3_lays_35 : decode cX3_lays 35 = .ok (.iconst 0, 1) := by decide +kernel
theorem dX3_lays_36 : decode cX3_lays 36 = .ok (.istore_n 3, 1) := by decide +kernel
theorem dX3_lays_37 : decode cX3_lays 37 = .ok (.iconst 0, 1) := by decide +kernel
theorem dX3_lays_38 : decode cX3_lays 38 = .ok (.istore 4, 2) := by decide +kernel
theorem dX3_lays_40 : decode cX3_lays 40 = .ok (.iload 4, 2) := by decide +kernel
theorem dX3_lays_42 : decode cX3_lays 42 = .ok (.aload_n 2, 1) := by decide +kernel
theorem dX3_lays_43 : decode cX3_lays 43 = .ok (.getfield 164, 3) := by decide +kernel
theorem dX3_lays_46 : decode cX3_lays 46 = .ok (.if_icmp .ge 68, 3) := by decide +kernel
theorem dX3_lays_49 : decode cX3_lays 49 = .ok (.iload 4, 2) := by decide +kernel
theorem dX3_lays_51 : decode cX3_lays 51 = .ok (.aload_n 0, 1) := by decide +kernel
theorem dX3_lays_52 : decode cX3_lays 52 = .ok (.getfield 12, 3) := by decide +kernel
theorem dX3_lays_55 : decode cX3_lays 55 = .ok (.getfield 76, 3) := by decide +kernel
theorem dX3_lays_58 : decode cX3_lays 58 = .ok (.if_icmp .ge 56, 3) := by decide +kernel
theorem dX3_lays_61 : decode cX3_lays 61 = .ok (.aload_n 2, 1) := by decide +kernel
theorem dX3_lays_62 : decode cX3_lays 62 = .ok (.getfield 172, 3) := by decide +kernel
theorem dX3_lays_65 : decode cX3_lays 65 = .ok (.iload 4, 2) := by decide +kernel
theorem dX3_lays_67 : decode cX3_lays 67 = .ok (.laload, 1) := by decide +kernel
theorem dX3_lays_68 : decode cX3_lays 68 = .ok (.lconst 0, 1) := by decide +kernel
theorem dX3_lays_69 : decode cX3_lays 69 = .ok (.lcmp, 1) := by decide +kernel
theorem dX3_lays_70 : decode cX3_lays 70 = .ok (.ifCond .lt 38, 3) := by decide +kernel
theorem dX3_lays_73 : decode cX3_lays 73 = .ok (.aload_n 2, 1) := by decide +kernel
theorem dX3_lays_74 : decode cX3_lays 74 = .ok (.getfield 172, 3) := by decide +kernel
theorem dX3_lays_77 : decode cX3_lays 77 = .ok (.iload 4, 2) := by decide +kernel
theorem dX3_lays_79 : decode cX3_lays 79 = .ok (.laload, 1) := by decide +kernel
theorem dX3_lays_80 : decode cX3_lays 80 = .ok (.ldc2_w 192, 3) := by decide +kernel
theorem dX3_lays_83 : decode cX3_lays 83 = .ok (.lcmp, 1) := by decide +kernel
theorem dX3_lays_84 : decode cX3_lays 84 = .ok (.ifCond .gt 24, 3) := by decide +kernel
theorem dX3_lays_87 : decode cX3_lays 87 = .ok (.aload_n 0, 1) := by decide +kernel
theorem dX3_lays_88 : decode cX3_lays 88 = .ok (.getfield 12, 3) := by decide +kernel
theorem dX3_lays_91 : decode cX3_lays 91 = .ok (.getfield 91, 3) := by decide +kernel
theorem dX3_lays_94 : decode cX3_lays 94 = .ok (.iload 4, 2) := by decide +kernel
theorem dX3_lays_96 : decode cX3_lays 96 = .ok (.aload_n 2, 1) := by decide +kernel
theorem dX3_lays_97 : decode cX3_lays 97 = .ok (.getfield 172, 3) := by decide +kernel
theorem dX3_lays_100 : decode cX3_lays 100 = .ok (.iload 4, 2) := by decide +kernel
theorem dX3_lays_102 : decode cX3_lays 102 = .ok (.laload, 1) := by decide +kernel
theorem dX3_lays_103 : decode cX3_lays 103 = .ok (.l2i, 1) := by decide +kernel
theorem dX3_lays_104 : decode cX3_lays 104 = .ok (.iastore, 1) := by decide +kernel
theorem dX3_lays_105 : decode cX3_lays 105 = .ok (.iinc 3 1, 3) := by decide +kernel
theorem dX3_lays_108 : decode cX3_lays 108 = .ok (.iinc 4 1, 3) := by decide +kernel
theorem dX3_lays_111 : decode cX3_lays 111 = .ok (.goto (-71), 3) := by decide +kernel
theorem dX3_lays_114 : decode cX3_lays 114 = .ok (.iload_n 3, 1) := by decide +kernel
theorem dX3_lays_115 : decode cX3_lays 115 = .ok (.ireturn, 1) := by decide +kernel
theorem dX3_book_0 : decode cX3_book 0 = .ok (.aload_n 0, 1) := by decide +kernel
theorem dX3_book_1 : decode cX3_book 1 = .ok (.iload_n 1, 1) := by decide +kernel
theorem dX3_book_2 : decode cX3_book 2 = .ok (.iload_n 2, 1) := by decide +kernel
theorem dX3_book_3 : decode cX3_book 3 = .ok (.invokevirtual 194, 3) := by decide +kernel
theorem dX3_book_6 : decode cX3_book 6 = .ok (.istore_n 3, 1) := by decide +kernel
theorem dX3_book_7 : decode cX3_book 7 = .ok (.iload_n 3, 1) := by decide +kernel
theorem dX3_book_8 : decode cX3_book 8 = .ok (.ifCond .eq 9, 3) := by decide +kernel
theorem dX3_book_11 : decode cX3_book 11 = .ok (.aload_n 0, 1) := by decide +kernel
theorem dX3_book_12 : decode cX3_book 12 = .ok (.iload_n 3, 1) := by decide +kernel
theorem dX3_book_13 : decode cX3_book 13 = .ok (.invokevirtual 49, 3) := by decide +kernel
theorem dX3_book_16 : decode cX3_book 16 = .ok (.ireturn, 1) := by decide +kernel
theorem dX3_book_17 : decode cX3_book 17 = .ok (.aload_n 0, 1) := by decide +kernel
theorem dX3_book_18 : decode cX3_book 18 = .ok (.getfield 35, 3) := by decide +kernel
theorem dX3_book_21 : decode cX3_book 21 = .ok (.iload_n 1, 1) := by decide +kernel
theorem dX3_book_22 : decode cX3_book 22 = .ok (.aaload, 1) := by decide +kernel
theorem dX3_book_23 : decode cX3_book 23 = .ok (.astore 4, 2) := by decide +kernel
theorem dX3_book_25 : decode cX3_book 25 = .ok (.aload_n 0, 1) := by decide +kernel
theorem dX3_book_26 : decode cX3_book 26 = .ok (.invokevirtual 124, 3) := by decide +kernel
theorem dX3_book_29 : decode cX3_book 29 = .ok (.iconst 0, 1) := by decide +kernel
theorem dX3_book_30 : decode cX3_book 30 = .ok (.istore 5, 2) := by decide +kernel
theorem dX3_book_32 : decode cX3_book 32 = .ok (.iload 5, 2) := by decide +kernel
theorem dX3_book_34 : decode cX3_book 34 = .ok (.aload 4, 2) := by decide +kernel
theorem dX3_book_36 : decode cX3_book 36 = .ok (.getfield 164, 3) := by decide +kernel
theorem dX3_book_39 : decode cX3_book 39 = .ok (.if_icmp .ge 32, 3) := by decide +kernel
theorem dX3_book_42 : decode cX3_book 42 = .ok (.aload 4, 2) := by decide +kernel
theorem dX3_book_44 : decode cX3_book 44 = .ok (.iload 5, 2) := by decide +kernel
theorem dX3_book_46 : decode cX3_book 46 = .ok (.aload_n 0, 1) := by decide +kernel
theorem dX3_book_47 : decode cX3_book 47 = .ok (.getfield 16, 3) := by decide +kernel
theorem dX3_book_50 : decode cX3_book 50 = .ok (.iload_n 2, 1) := by decide +kernel
theorem dX3_book_51 : decode cX3_book 51 = .ok (.invokevirtual 100, 3) := by decide +kernel
theorem dX3_book_54 : decode cX3_book 54 = .ok (.i2l, 1) := by decide +kernel
theorem dX3_book_55 : decode cX3_book 55 = .ok (.invokevirtual 176, 3) := by decide +kernel
theorem dX3_book_58 : decode cX3_book 58 = .ok (.aload_n 0, 1) := by decide +kernel
theorem dX3_book_59 : decode cX3_book 59 = .ok (.getfield 16, 3) := by decide +kernel
theorem dX3_book_62 : decode cX3_book 62 = .ok (.invokevirtual 133, 3) := by decide +kernel
theorem dX3_book_65 : decode cX3_book 65 = .ok (.iinc 5 1, 3) := by decide +kernel
theorem dX3_book_68 : decode cX3_book 68 = .ok (.goto (-36), 3) := by decide +kernel
theorem dX3_book_71 : decode cX3_book 71 = .ok (.aload 4, 2) := by decide +kernel
theorem dX3_book_73 : decode cX3_book 73 = .ok (.getfield 164, 3) := by decide +kernel
theorem dX3_book_76 : decode cX3_book 76 = .ok (.ireturn, 1) := by decide +kernel
theorem dX3_read_0 : decode cX3_read 0 = .ok (.aload_n 0, 1) := by decide +kernel
theorem dX3_read_1 : decode cX3_read 1 = .ok (.iload_n 1, 1) := by decide +kernel
theorem dX3_read_2 : decode cX3_read 2 = .ok (.iload_n 2, 1) := by decide +kernel
theorem dX3_read_3 : decode cX3_read 3 = .ok (.invokevirtual 194, 3) := by decide +kernel
theorem dX3_read_6 : decode cX3_read 6 = .ok (.istore_n 3, 1) := by decide +kernel
theorem dX3_read_7 : decode cX3_read 7 = .ok (.iload_n 3, 1) := by decide +kernel
theorem dX3_read_8 : decode cX3_read 8 = .ok (.ifCond .eq 9, 3) := by decide +kernel
theorem dX3_read_11 : decode cX3_read 11 = .ok (.aload_n 0, 1) := by decide +kernel
theorem dX3_read_12 : decode cX3_read 12 = .ok (.iload_n 3, 1) := by decide +kernel
theorem dX3_read_13 : decode cX3_read 13 = .ok (.invokevirtual 49, 3) := by decide +kernel
theorem dX3_read_16 : decode cX3_read 16 = .ok (.ireturn, 1) := by decide +kernel
theorem dX3_read_17 : decode cX3_read 17 = .ok (.iconst 0, 1) := by decide +kernel
theorem dX3_read_18 : decode cX3_read 18 = .ok (.istore 4, 2) := by decide +kernel
theorem dX3_read_20 : decode cX3_read 20 = .ok (.iconst 0, 1) := by decide +kernel
theorem dX3_read_21 : decode cX3_read 21 = .ok (.istore 5, 2) := by decide +kernel
theorem dX3_read_23 : decode cX3_read 23 = .ok (.iload 5, 2) := by decide +kernel
theorem dX3_read_25 : decode cX3_read 25 = .ok (.bipush 6, 2) := by decide +kernel
theorem dX3_read_27 : decode cX3_read 27 = .ok (.if_icmp .ge 68, 3) := by decide +kernel
theorem dX3_read_30 : decode cX3_read 30 = .ok (.iconst 0, 1) := by decide +kernel
theorem dX3_read_31 : decode cX3_read 31 = .ok (.istore 6, 2) := by decide +kernel
theorem dX3_read_33 : decode cX3_read 33 = .ok (.iload 6, 2) := by decide +kernel
theorem dX3_read_35 : decode cX3_read 35 = .ok (.bipush 99, 2) := by decide +kernel
theorem dX3_read_37 : decode cX3_read 37 = .ok (.if_icmp .gt 52, 3) := by decide +kernel
theorem dX3_read_40 : decode cX3_read 40 = .ok (.aload_n 0, 1) := by decide +kernel
theorem dX3_read_41 : decode cX3_read 41 = .ok (.invokevirtual 124, 3) := by decide +kernel
theorem dX3_read_44 : decode cX3_read 44 = .ok (.aload_n 0, 1) := by decide +kernel
theorem dX3_read_45 : decode cX3_read 45 = .ok (.getfield 16, 3) := by decide +kernel
theorem dX3_read_48 : decode cX3_read 48 = .ok (.getfield 88, 3) := by decide +kernel
theorem dX3_read_51 : decode cX3_read 51 = .ok (.iload_n 2, 1) := by decide +kernel
theorem dX3_read_52 : decode cX3_read 52 = .ok (.iload 5, 2) := by decide +kernel
theorem dX3_read_54 : decode cX3_read 54 = .ok (.iastore, 1) := by decide +kernel
theorem dX3_read_55 : decode cX3_read 55 = .ok (.aload_n 0, 1) := by decide +kernel
theorem dX3_read_56 : decode cX3_read 56 = .ok (.getfield 16, 3) := by decide +kernel
theorem dX3_read_59 : decode cX3_read 59 = .ok (.getfield 91, 3) := by decide +kernel
theorem dX3_read_62 : decode cX3_read 62 = .ok (.iload_n 2, 1) := by decide +kernel
theorem dX3_read_63 : decode cX3_read 63 = .ok (.iload 6, 2) := by decide +kernel
theorem dX3_read_65 : decode cX3_read 65 = .ok (.iastore, 1) := by decide +kernel
theorem dX3_read_66 : decode cX3_read 66 = .ok (.aload_n 0, 1) := by decide +kernel
theorem dX3_read_67 : decode cX3_read 67 = .ok (.aload_n 0, 1) := by decide +kernel
theorem dX3_read_68 : decode cX3_read 68 = .ok (.getfield 35, 3) := by decide +kernel
theorem dX3_read_71 : decode cX3_read 71 = .ok (.iload_n 1, 1) := by decide +kernel
theorem dX3_read_72 : decode cX3_read 72 = .ok (.aaload, 1) := by decide +kernel
theorem dX3_read_73 : decode cX3_read 73 = .ok (.iload_n 2, 1) := by decide +kernel
theorem dX3_read_74 : decode cX3_read 74 = .ok (.invokevirtual 197, 3) := by decide +kernel
theorem dX3_read_77 : decode cX3_read 77 = .ok (.ifCond .eq 6, 3) := by decide +kernel
theorem dX3_read_80 : decode cX3_read 80 = .ok (.iinc 4 1, 3) := by decide +kernel
theorem dX3_read_83 : decode cX3_read 83 = .ok (.iinc 6 1, 3) := by decide +kernel
theorem dX3_read_86 : decode cX3_read 86 = .ok (.goto (-53), 3) := by decide +kernel
theorem dX3_read_89 : decode cX3_read 89 = .ok (.iinc 5 1, 3) := by decide +kernel
theorem dX3_read_92 : decode cX3_read 92 = .ok (.goto (-69), 3) := by decide +kernel
theorem dX3_read_95 : decode cX3_read 95 = .ok (.iload 4, 2) := by decide +kernel
theorem dX3_read_97 : decode cX3_read 97 = .ok (.ireturn, 1) := by decide +kernel
theorem dX3_image_0 : decode cX3_image 0 = .ok (.aload_n 0, 1) := by decide +kernel
theorem dX3_image_1 : decode cX3_image 1 = .ok (.getfield 19, 3) := by decide +kernel
theorem dX3_image_4 : decode cX3_image 4 = .ok (.aload_n 0, 1) := by decide +kernel
theorem dX3_image_5 : decode cX3_image 5 = .ok (.getfield 12, 3) := by decide +kernel
theorem dX3_image_8 : decode cX3_image 8 = .ok (.invokevirtual 153, 3) := by decide +kernel
theorem dX3_image_11 : decode cX3_image 11 = .ok (.aload_n 0, 1) := by decide +kernel
theorem dX3_image_12 : decode cX3_image 12 = .ok (.iconst 1, 1) := by decide +kernel
theorem dX3_image_13 : decode cX3_image 13 = .ok (.putfield 22, 3) := by decide +kernel
theorem dX3_image_16 : decode cX3_image 16 = .ok (.iconst 1, 1) := by decide +kernel
theorem dX3_image_17 : decode cX3_image 17 = .ok (.ireturn, 1) := by decide +kernel
theorem dX3_undo_0 : decode cX3_undo 0 = .ok (.aload_n 0, 1) := by decide +kernel
theorem dX3_undo_1 : decode cX3_undo 1 = .ok (.getfield 22, 3) := by decide +kernel
theorem dX3_undo_4 : decode cX3_undo 4 = .ok (.ifCond .ne 10, 3) := by decide +kernel
theorem dX3_undo_7 : decode cX3_undo 7 = .ok (.aload_n 0, 1) := by decide +kernel
theorem dX3_undo_8 : decode cX3_undo 8 = .ok (.ldc 136, 2) := by decide +kernel
theorem dX3_undo_10 : decode cX3_undo 10 = .ok (.invokevirtual 49, 3) := by decide +kernel
theorem dX3_undo_13 : decode cX3_undo 13 = .ok (.ireturn, 1) := by decide +kernel
theorem dX3_undo_14 : decode cX3_undo 14 = .ok (.aload_n 0, 1) := by decide +kernel
theorem dX3_undo_15 : decode cX3_undo 15 = .ok (.getfield 12, 3) := by decide +kernel
theorem dX3_undo_18 : decode cX3_undo 18 = .ok (.aload_n 0, 1) := by decide +kernel
theorem dX3_undo_19 : decode cX3_undo 19 = .ok (.getfield 19, 3) := by decide +kernel
theorem dX3_undo_22 : decode cX3_undo 22 = .ok (.invokevirtual 153, 3) := by decide +kernel
theorem dX3_undo_25 : decode cX3_undo 25 = .ok (.aload_n 0, 1) := by decide +kernel
theorem dX3_undo_26 : decode cX3_undo 26 = .ok (.getfield 12, 3) := by decide +kernel
theorem dX3_undo_29 : decode cX3_undo 29 = .ok (.getfield 76, 3) := by decide +kernel
theorem dX3_undo_32 : decode cX3_undo 32 = .ok (.ireturn, 1) := by decide +kernel
theorem dX3_tear_0 : decode cX3_tear 0 = .ok (.aload_n 0, 1) := by decide +kernel
theorem dX3_tear_1 : decode cX3_tear 1 = .ok (.getfield 22, 3) := by decide +kernel
theorem dX3_tear_4 : decode cX3_tear 4 = .ok (.ifCond .eq 7, 3) := by decide +kernel
theorem dX3_tear_7 : decode cX3_tear 7 = .ok (.iconst 1, 1) := by decide +kernel
theorem dX3_tear_8 : decode cX3_tear 8 = .ok (.goto 4, 3) := by decide +kernel
theorem dX3_tear_11 : decode cX3_tear 11 = .ok (.iconst 0, 1) := by decide +kernel
theorem dX3_tear_12 : decode cX3_tear 12 = .ok (.istore_n 1, 1) := by decide +kernel
theorem dX3_tear_13 : decode cX3_tear 13 = .ok (.aload_n 0, 1) := by decide +kernel
theorem dX3_tear_14 : decode cX3_tear 14 = .ok (.iconst 0, 1) := by decide +kernel
theorem dX3_tear_15 : decode cX3_tear 15 = .ok (.putfield 22, 3) := by decide +kernel
theorem dX3_tear_18 : decode cX3_tear 18 = .ok (.iload_n 1, 1) := by decide +kernel
theorem dX3_tear_19 : decode cX3_tear 19 = .ok (.ireturn, 1) := by decide +kernel
theorem dX3_count_0 : decode cX3_count 0 = .ok (.iload_n 1, 1) := by decide +kernel
theorem dX3_count_1 : decode cX3_count 1 = .ok (.tableswitch 63 0 3 #[31, 39, 47, 55], 31) := by decide +kernel
theorem dX3_count_32 : decode cX3_count 32 = .ok (.aload_n 0, 1) := by decide +kernel
theorem dX3_count_33 : decode cX3_count 33 = .ok (.getfield 12, 3) := by decide +kernel
theorem dX3_count_36 : decode cX3_count 36 = .ok (.getfield 76, 3) := by decide +kernel
theorem dX3_count_39 : decode cX3_count 39 = .ok (.ireturn, 1) := by decide +kernel
theorem dX3_count_40 : decode cX3_count 40 = .ok (.aload_n 0, 1) := by decide +kernel
theorem dX3_count_41 : decode cX3_count 41 = .ok (.getfield 29, 3) := by decide +kernel
theorem dX3_count_44 : decode cX3_count 44 = .ok (.getfield 142, 3) := by decide +kernel
theorem dX3_count_47 : decode cX3_count 47 = .ok (.ireturn, 1) := by decide +kernel
theorem dX3_count_48 : decode cX3_count 48 = .ok (.aload_n 0, 1) := by decide +kernel
theorem dX3_count_49 : decode cX3_count 49 = .ok (.getfield 12, 3) := by decide +kernel
theorem dX3_count_52 : decode cX3_count 52 = .ok (.invokevirtual 201, 3) := by decide +kernel
theorem dX3_count_55 : decode cX3_count 55 = .ok (.ireturn, 1) := by decide +kernel
theorem dX3_count_56 : decode cX3_count 56 = .ok (.aload_n 0, 1) := by decide +kernel
theorem dX3_count_57 : decode cX3_count 57 = .ok (.getfield 12, 3) := by decide +kernel
theorem dX3_count_60 : decode cX3_count 60 = .ok (.invokevirtual 73, 3) := by decide +kernel
theorem dX3_count_63 : decode cX3_count 63 = .ok (.ireturn, 1) := by decide +kernel
theorem dX3_count_64 : decode cX3_count 64 = .ok (.aload_n 0, 1) := by decide +kernel
theorem dX3_count_65 : decode cX3_count 65 = .ok (.ldc 48, 2) := by decide +kernel
theorem dX3_count_67 : decode cX3_count 67 = .ok (.invokevirtual 49, 3) := by decide +kernel
theorem dX3_count_70 : decode cX3_count 70 = .ok (.ireturn, 1) := by decide +kernel
theorem dX3_status_0 : decode cX3_status 0 = .ok (.iload_n 1, 1) := by decide +kernel
theorem dX3_status_1 : decode cX3_status 1 = .ok (.iconst (-1), 1) := by decide +kernel
theorem dX3_status_2 : decode cX3_status 2 = .ok (.bipush 6, 2) := by decide +kernel
theorem dX3_status_4 : decode cX3_status 4 = .ok (.invokestatic 44, 3) := by decide +kernel
theorem dX3_status_7 : decode cX3_status 7 = .ok (.ifCond .ne 10, 3) := by decide +kernel
theorem dX3_status_10 : decode cX3_status 10 = .ok (.aload_n 0, 1) := by decide +kernel
theorem dX3_status_11 : decode cX3_status 11 = .ok (.ldc 48, 2) := by decide +kernel
theorem dX3_status_13 : decode cX3_status 13 = .ok (.invokevirtual 49, 3) := by decide +kernel
theorem dX3_status_16 : decode cX3_status 16 = .ok (.ireturn, 1) := by decide +kernel
theorem dX3_status_17 : decode cX3_status 17 = .ok (.iload_n 1, 1) := by decide +kernel
theorem dX3_status_18 : decode cX3_status 18 = .ok (.ifCond .lt 10, 3) := by decide +kernel
theorem dX3_status_21 : decode cX3_status 21 = .ok (.aload_n 0, 1) := by decide +kernel
theorem dX3_status_22 : decode cX3_status 22 = .ok (.getfield 39, 3) := by decide +kernel
theorem dX3_status_25 : decode cX3_status 25 = .ok (.iload_n 1, 1) := by decide +kernel
theorem dX3_status_26 : decode cX3_status 26 = .ok (.iaload, 1) := by decide +kernel
theorem dX3_status_27 : decode cX3_status 27 = .ok (.ireturn, 1) := by decide +kernel
theorem dX3_status_28 : decode cX3_status 28 = .ok (.iconst 0, 1) := by decide +kernel
theorem dX3_status_29 : decode cX3_status 29 = .ok (.istore_n 2, 1) := by decide +kernel
theorem dX3_status_30 : decode cX3_status 30 = .ok (.iconst 0, 1) := by decide +kernel
theorem dX3_status_31 : decode cX3_status 31 = .ok (.istore_n 3, 1) := by decide +kernel
theorem dX3_status_32 : decode cX3_status 32 = .ok (.iload_n 3, 1) := by decide +kernel
theorem dX3_status_33 : decode cX3_status 33 = .ok (.bipush 7, 2) := by decide +kernel
theorem dX3_status_35 : decode cX3_status 35 = .ok (.if_icmp .ge 18, 3) := by decide +kernel
theorem dX3_status_38 : decode cX3_status 38 = .ok (.iload_n 2, 1) := by decide +kernel
theorem dX3_status_39 : decode cX3_status 39 = .ok (.aload_n 0, 1) := by decide +kernel
theorem dX3_status_40 : decode cX3_status 40 = .ok (.getfield 39, 3) := by decide +kernel
theorem dX3_status_43 : decode cX3_status 43 = .ok (.iload_n 3, 1) := by decide +kernel
theorem dX3_status_44 : decode cX3_status 44 = .ok (.iaload, 1) := by decide +kernel
theorem dX3_status_45 : decode cX3_status 45 = .ok (.iadd, 1) := by decide +kernel
theorem dX3_status_46 : decode cX3_status 46 = .ok (.istore_n 2, 1) := by decide +kernel
theorem dX3_status_47 : decode cX3_status 47 = .ok (.iinc 3 1, 3) := by decide +kernel
theorem dX3_status_50 : decode cX3_status 50 = .ok (.goto (-18), 3) := by decide +kernel
theorem dX3_status_53 : decode cX3_status 53 = .ok (.iload_n 2, 1) := by decide +kernel
theorem dX3_status_54 : decode cX3_status 54 = .ok (.ireturn, 1) := by decide +kernel
theorem dX3_finding_0 : decode cX3_finding 0 = .ok (.ldc 48, 2) := by decide +kernel
theorem dX3_finding_2 : decode cX3_finding 2 = .ok (.iload_n 1, 1) := by decide +kernel
theorem dX3_finding_3 : decode cX3_finding 3 = .ok (.isub, 1) := by decide +kernel
theorem dX3_finding_4 : decode cX3_finding 4 = .ok (.istore_n 2, 1) := by decide +kernel
theorem dX3_finding_5 : decode cX3_finding 5 = .ok (.iload_n 2, 1) := by decide +kernel
theorem dX3_finding_6 : decode cX3_finding 6 = .ok (.ifCond .lt 19, 3) := by decide +kernel
theorem dX3_finding_9 : decode cX3_finding 9 = .ok (.iload_n 2, 1) := by decide +kernel
theorem dX3_finding_10 : decode cX3_finding 10 = .ok (.bipush 7, 2) := by decide +kernel
theorem dX3_finding_12 : decode cX3_finding 12 = .ok (.if_icmp .ge 13, 3) := by decide +kernel
theorem dX3_finding_15 : decode cX3_finding 15 = .ok (.aload_n 0, 1) := by decide +kernel
theorem dX3_finding_16 : decode cX3_finding 16 = .ok (.getfield 39, 3) := by decide +kernel
theorem dX3_finding_19 : decode cX3_finding 19 = .ok (.iload_n 2, 1) := by decide +kernel
theorem dX3_finding_20 : decode cX3_finding 20 = .ok (.dup2, 1) := by decide +kernel
theorem dX3_finding_21 : decode cX3_finding 21 = .ok (.iaload, 1) := by decide +kernel
theorem dX3_finding_22 : decode cX3_finding 22 = .ok (.iconst 1, 1) := by decide +kernel
theorem dX3_finding_23 : decode cX3_finding 23 = .ok (.iadd, 1) := by decide +kernel
theorem dX3_finding_24 : decode cX3_finding 24 = .ok (.iastore, 1) := by decide +kernel
theorem dX3_finding_25 : decode cX3_finding 25 = .ok (.iload_n 1, 1) := by decide +kernel
theorem dX3_finding_26 : decode cX3_finding 26 = .ok (.ireturn, 1) := by decide +kernel
theorem dX3_startTrial_0 : decode cX3_startTrial 0 = .ok (.aload_n 0, 1) := by decide +kernel
theorem dX3_startTrial_1 : decode cX3_startTrial 1 = .ok (.getfield 16, 3) := by decide +kernel
theorem dX3_startTrial_4 : decode cX3_startTrial 4 = .ok (.aload_n 0, 1) := by decide +kernel
theorem dX3_startTrial_5 : decode cX3_startTrial 5 = .ok (.getfield 12, 3) := by decide +kernel
theorem dX3_startTrial_8 : decode cX3_startTrial 8 = .ok (.invokevirtual 153, 3) := by decide +kernel
theorem dX3_startTrial_11 : decode cX3_startTrial 11 = .ok (.return_, 1) := by decide +kernel
theorem dX3_isThere_0 : decode cX3_isThere 0 = .ok (.iload_n 1, 1) := by decide +kernel
theorem dX3_isThere_1 : decode cX3_isThere 1 = .ok (.iconst 0, 1) := by decide +kernel
theorem dX3_isThere_2 : decode cX3_isThere 2 = .ok (.aload_n 0, 1) := by decide +kernel
theorem dX3_isThere_3 : decode cX3_isThere 3 = .ok (.getfield 12, 3) := by decide +kernel
theorem dX3_isThere_6 : decode cX3_isThere 6 = .ok (.getfield 76, 3) := by decide +kernel
theorem dX3_isThere_9 : decode cX3_isThere 9 = .ok (.iconst 1, 1) := by decide +kernel
theorem dX3_isThere_10 : decode cX3_isThere 10 = .ok (.isub, 1) := by decide +kernel
theorem dX3_isThere_11 : decode cX3_isThere 11 = .ok (.invokestatic 44, 3) := by decide +kernel
theorem dX3_isThere_14 : decode cX3_isThere 14 = .ok (.ireturn, 1) := by decide +kernel
theorem dX3_isSheet_0 : decode cX3_isSheet 0 = .ok (.iload_n 0, 1) := by decide +kernel
theorem dX3_isSheet_1 : decode cX3_isSheet 1 = .ok (.iconst 0, 1) := by decide +kernel
theorem dX3_isSheet_2 : decode cX3_isSheet 2 = .ok (.iconst 3, 1) := by decide +kernel
theorem dX3_isSheet_3 : decode cX3_isSheet 3 = .ok (.invokestatic 44, 3) := by decide +kernel
theorem dX3_isSheet_6 : decode cX3_isSheet 6 = .ok (.ireturn, 1) := by decide +kernel
theorem dX3_refusalOf_0 : decode cX3_refusalOf 0 = .ok (.iload_n 1, 1) := by decide +kernel
theorem dX3_refusalOf_1 : decode cX3_refusalOf 1 = .ok (.invokestatic 157, 3) := by decide +kernel
theorem dX3_refusalOf_4 : decode cX3_refusalOf 4 = .ok (.ifCond .ne 6, 3) := by decide +kernel
theorem dX3_refusalOf_7 : decode cX3_refusalOf 7 = .ok (.ldc 48, 2) := by decide +kernel
theorem dX3_refusalOf_9 : decode cX3_refusalOf 9 = .ok (.ireturn, 1) := by decide +kernel
theorem dX3_refusalOf_10 : decode cX3_refusalOf 10 = .ok (.aload_n 0, 1) := by decide +kernel
theorem dX3_refusalOf_11 : decode cX3_refusalOf 11 = .ok (.getfield 35, 3) := by decide +kernel
theorem dX3_refusalOf_14 : decode cX3_refusalOf 14 = .ok (.iload_n 1, 1) := by decide +kernel
theorem dX3_refusalOf_15 : decode cX3_refusalOf 15 = .ok (.aaload, 1) := by decide +kernel
theorem dX3_refusalOf_16 : decode cX3_refusalOf 16 = .ok (.invokevirtual 167, 3) := by decide +kernel
theorem dX3_refusalOf_19 : decode cX3_refusalOf 19 = .ok (.ifCond .eq 6, 3) := by decide +kernel
theorem dX3_refusalOf_22 : decode cX3_refusalOf 22 = .ok (.ldc 171, 2) := by decide +kernel
theorem dX3_refusalOf_24 : decode cX3_refusalOf 24 = .ok (.ireturn, 1) := by decide +kernel
theorem dX3_refusalOf_25 : decode cX3_refusalOf 25 = .ok (.aload_n 0, 1) := by decide +kernel
theorem dX3_refusalOf_26 : decode cX3_refusalOf 26 = .ok (.iload_n 2, 1) := by decide +kernel
theorem dX3_refusalOf_27 : decode cX3_refusalOf 27 = .ok (.invokevirtual 84, 3) := by decide +kernel
theorem dX3_refusalOf_30 : decode cX3_refusalOf 30 = .ok (.ifCond .eq 7, 3) := by decide +kernel
theorem dX3_refusalOf_33 : decode cX3_refusalOf 33 = .ok (.iconst 0, 1) := by decide +kernel
theorem dX3_refusalOf_34 : decode cX3_refusalOf 34 = .ok (.goto 5, 3) := by decide +kernel
theorem dX3_refusalOf_37 : decode cX3_refusalOf 37 = .ok (.ldc 48, 2) := by decide +kernel
theorem dX3_refusalOf_39 : decode cX3_refusalOf 39 = .ok (.ireturn, 1) := by decide +kernel
theorem dX3_trialDoesAs_0 : decode cX3_trialDoesAs 0 = .ok (.iconst 0, 1) := by decide +kernel
theorem dX3_trialDoesAs_1 : decode cX3_trialDoesAs 1 = .ok (.istore_n 3, 1) := by decide +kernel
theorem dX3_trialDoesAs_2 : decode cX3_trialDoesAs 2 = .ok (.iload_n 3, 1) := by decide +kernel
theorem dX3_trialDoesAs_3 : decode cX3_trialDoesAs 3 = .ok (.aload_n 1, 1) := by decide +kernel
theorem dX3_trialDoesAs_4 : decode cX3_trialDoesAs 4 = .ok (.getfield 164, 3) := by decide +kernel
theorem dX3_trialDoesAs_7 : decode cX3_trialDoesAs 7 = .ok (.if_icmp .ge 37, 3) := by decide +kernel
theorem dX3_trialDoesAs_10 : decode cX3_trialDoesAs 10 = .ok (.aload_n 0, 1) := by decide +kernel
theorem dX3_trialDoesAs_11 : decode cX3_trialDoesAs 11 = .ok (.getfield 16, 3) := by decide +kernel
theorem dX3_trialDoesAs_14 : decode cX3_trialDoesAs 14 = .ok (.iload_n 2, 1) := by decide +kernel
theorem dX3_trialDoesAs_15 : decode cX3_trialDoesAs 15 = .ok (.invokevirtual 100, 3) := by decide +kernel
theorem dX3_trialDoesAs_18 : decode cX3_trialDoesAs 18 = .ok (.i2l, 1) := by decide +kernel
theorem dX3_trialDoesAs_19 : decode cX3_trialDoesAs 19 = .ok (.aload_n 1, 1) := by decide +kernel
theorem dX3_trialDoesAs_20 : decode cX3_trialDoesAs 20 = .ok (.getfield 172, 3) := by decide +kernel
theorem dX3_trialDoesAs_23 : decode cX3_trialDoesAs 23 = .ok (.iload_n 3, 1) := by decide +kernel
theorem dX3_trialDoesAs_24 : decode cX3_trialDoesAs 24 = .ok (.laload, 1) := by decide +kernel
theorem dX3_trialDoesAs_25 : decode cX3_trialDoesAs 25 = .ok (.lcmp, 1) := by decide +kernel
theorem dX3_trialDoesAs_26 : decode cX3_trialDoesAs 26 = .ok (.ifCond .eq 5, 3) := by decide +kernel
theorem dX3_trialDoesAs_29 : decode cX3_trialDoesAs 29 = .ok (.iconst 0, 1) := by decide +kernel
theorem dX3_trialDoesAs_30 : decode cX3_trialDoesAs 30 = .ok (.ireturn, 1) := by decide +kernel
theorem dX3_trialDoesAs_31 : decode cX3_trialDoesAs 31 = .ok (.aload_n 0, 1) := by decide +kernel
theorem dX3_trialDoesAs_32 : decode cX3_trialDoesAs 32 = .ok (.getfield 16, 3) := by decide +kernel
theorem dX3_trialDoesAs_35 : decode cX3_trialDoesAs 35 = .ok (.invokevirtual 133, 3) := by decide +kernel
theorem dX3_trialDoesAs_38 : decode cX3_trialDoesAs 38 = .ok (.iinc 3 1, 3) := by decide +kernel
theorem dX3_trialDoesAs_41 : decode cX3_trialDoesAs 41 = .ok (.goto (-39), 3) := by decide +kernel
theorem dX3_trialDoesAs_44 : decode cX3_trialDoesAs 44 = .ok (.iconst 1, 1) := by decide +kernel
theorem dX3_trialDoesAs_45 : decode cX3_trialDoesAs 45 = .ok (.ireturn, 1) := by decide +kernel
theorem dX3_isIn_0 : decode cX3_isIn 0 = .ok (.iload_n 0, 1) := by decide +kernel
theorem dX3_isIn_1 : decode cX3_isIn 1 = .ok (.iload_n 1, 1) := by decide +kernel
theorem dX3_isIn_2 : decode cX3_isIn 2 = .ok (.if_icmp .lt 12, 3) := by decide +kernel
theorem dX3_isIn_5 : decode cX3_isIn 5 = .ok (.iload_n 0, 1) := by decide +kernel
theorem dX3_isIn_6 : decode cX3_isIn 6 = .ok (.iload_n 2, 1) := by decide +kernel
theorem dX3_isIn_7 : decode cX3_isIn 7 = .ok (.if_icmp .gt 7, 3) := by decide +kernel
theorem dX3_isIn_10 : decode cX3_isIn 10 = .ok (.iconst 1, 1) := by decide +kernel
theorem dX3_isIn_11 : decode cX3_isIn 11 = .ok (.goto 4, 3) := by decide +kernel
theorem dX3_isIn_14 : decode cX3_isIn 14 = .ok (.iconst 0, 1) := by decide +kernel
theorem dX3_isIn_15 : decode cX3_isIn 15 = .ok (.ireturn, 1) := by decide +kernel
theorem dX3_held_0 : decode cX3_held 0 = .ok (.iload_n 1, 1) := by decide +kernel
theorem dX3_held_1 : decode cX3_held 1 = .ok (.iload_n 2, 1) := by decide +kernel
theorem dX3_held_2 : decode cX3_held 2 = .ok (.iload_n 0, 1) := by decide +kernel
theorem dX3_held_3 : decode cX3_held 3 = .ok (.invokestatic 204, 3) := by decide +kernel
theorem dX3_held_6 : decode cX3_held 6 = .ok (.invokestatic 209, 3) := by decide +kernel
theorem dX3_held_9 : decode cX3_held 9 = .ok (.ireturn, 1) := by decide +kernel
theorem dX3_isUnder_0 : decode cX3_isUnder 0 = .ok (.iload_n 0, 1) := by decide +kernel
theorem dX3_isUnder_1 : decode cX3_isUnder 1 = .ok (.istore_n 2, 1) := by decide +kernel
theorem dX3_isUnder_2 : decode cX3_isUnder 2 = .ok (.iconst 0, 1) := by decide +kernel
theorem dX3_isUnder_3 : decode cX3_isUnder 3 = .ok (.istore_n 3, 1) := by decide +kernel
theorem dX3_isUnder_4 : decode cX3_isUnder 4 = .ok (.iload_n 3, 1) := by decide +kernel
theorem dX3_isUnder_5 : decode cX3_isUnder 5 = .ok (.bipush 6, 2) := by decide +kernel
theorem dX3_isUnder_7 : decode cX3_isUnder 7 = .ok (.if_icmp .ge 32, 3) := by decide +kernel
theorem dX3_isUnder_10 : decode cX3_isUnder 10 = .ok (.iload_n 2, 1) := by decide +kernel
theorem dX3_isUnder_11 : decode cX3_isUnder 11 = .ok (.ifCond .lt 28, 3) := by decide +kernel
theorem dX3_isUnder_14 : decode cX3_isUnder 14 = .ok (.iload_n 2, 1) := by decide +kernel
theorem dX3_isUnder_15 : decode cX3_isUnder 15 = .ok (.bipush 6, 2) := by decide +kernel
theorem dX3_isUnder_17 : decode cX3_isUnder 17 = .ok (.if_icmp .ge 22, 3) := by decide +kernel
theorem dX3_isUnder_20 : decode cX3_isUnder 20 = .ok (.iload_n 2, 1) := by decide +kernel
theorem dX3_isUnder_21 : decode cX3_isUnder 21 = .ok (.iload_n 1, 1) := by decide +kernel
theorem dX3_isUnder_22 : decode cX3_isUnder 22 = .ok (.if_icmp .ne 5, 3) := by decide +kernel
theorem dX3_isUnder_25 : decode cX3_isUnder 25 = .ok (.iconst 1, 1) := by decide +kernel
theorem dX3_isUnder_26 : decode cX3_isUnder 26 = .ok (.ireturn, 1) := by decide +kernel
theorem dX3_isUnder_27 : decode cX3_isUnder 27 = .ok (.getstatic 212, 3) := by decide +kernel
theorem dX3_isUnder_30 : decode cX3_isUnder 30 = .ok (.iload_n 2, 1) := by decide +kernel
theorem dX3_isUnder_31 : decode cX3_isUnder 31 = .ok (.iaload, 1) := by decide +kernel
theorem dX3_isUnder_32 : decode cX3_isUnder 32 = .ok (.istore_n 2, 1) := by decide +kernel
theorem dX3_isUnder_33 : decode cX3_isUnder 33 = .ok (.iinc 3 1, 3) := by decide +kernel
theorem dX3_isUnder_36 : decode cX3_isUnder 36 = .ok (.goto (-32), 3) := by decide +kernel
theorem dX3_isUnder_39 : decode cX3_isUnder 39 = .ok (.iconst 0, 1) := by decide +kernel
theorem dX3_isUnder_40 : decode cX3_isUnder 40 = .ok (.ireturn, 1) := by decide +kernel
theorem dX3_staleness_0 : decode cX3_staleness 0 = .ok (.iload_n 0, 1) := by decide +kernel
theorem dX3_staleness_1 : decode cX3_staleness 1 = .ok (.tableswitch 47 1 5 #[35, 37, 40, 43, 45], 35) := by decide +kernel
theorem dX3_staleness_36 : decode cX3_staleness 36 = .ok (.iconst 3, 1) := by decide +kernel
theorem dX3_staleness_37 : decode cX3_staleness 37 = .ok (.ireturn, 1) := by decide +kernel
theorem dX3_staleness_38 : decode cX3_staleness 38 = .ok (.bipush 8, 2) := by decide +kernel
theorem dX3_staleness_40 : decode cX3_staleness 40 = .ok (.ireturn, 1) := by decide +kernel
theorem dX3_staleness_41 : decode cX3_staleness 41 = .ok (.bipush (-5), 2) := by decide +kernel
theorem dX3_staleness_43 : decode cX3_staleness 43 = .ok (.ireturn, 1) := by decide +kernel
theorem dX3_staleness_44 : decode cX3_staleness 44 = .ok (.iconst 0, 1) := by decide +kernel
theorem dX3_staleness_45 : decode cX3_staleness 45 = .ok (.ireturn, 1) := by decide +kernel
theorem dX3_staleness_46 : decode cX3_staleness 46 = .ok (.iconst 5, 1) := by decide +kernel
theorem dX3_staleness_47 : decode cX3_staleness 47 = .ok (.ireturn, 1) := by decide +kernel
theorem dX3_staleness_48 : decode cX3_staleness 48 = .ok (.iconst 4, 1) := by decide +kernel
theorem dX3_staleness_49 : decode cX3_staleness 49 = .ok (.ireturn, 1) := by decide +kernel
theorem dX3_scoreFor_0 : decode cX3_scoreFor 0 = .ok (.iload_n 0, 1) := by decide +kernel
theorem dX3_scoreFor_1 : decode cX3_scoreFor 1 = .ok (.tableswitch 89 1 5 #[35, 41, 47, 58, 79], 35) := by decide +kernel
theorem dX3_scoreFor_36 : decode cX3_scoreFor 36 = .ok (.iload_n 1, 1) := by decide +kernel
theorem dX3_scoreFor_37 : decode cX3_scoreFor 37 = .ok (.iload_n 2, 1) := by decide +kernel
theorem dX3_scoreFor_38 : decode cX3_scoreFor 38 = .ok (.invokestatic 215, 3) := by decide +kernel
theorem dX3_scoreFor_41 : decode cX3_scoreFor 41 = .ok (.ireturn, 1) := by decide +kernel
theorem dX3_scoreFor_42 : decode cX3_scoreFor 42 = .ok (.iload_n 1, 1) := by decide +kernel
theorem dX3_scoreFor_43 : decode cX3_scoreFor 43 = .ok (.iload_n 2, 1) := by decide +kernel
theorem dX3_scoreFor_44 : decode cX3_scoreFor 44 = .ok (.invokestatic 218, 3) := by decide +kernel
theorem dX3_scoreFor_47 : decode cX3_scoreFor 47 = .ok (.ireturn, 1) := by decide +kernel
theorem dX3_scoreFor_48 : decode cX3_scoreFor 48 = .ok (.iload_n 2, 1) := by decide +kernel
theorem dX3_scoreFor_49 : decode cX3_scoreFor 49 = .ok (.ifCond .ne 7, 3) := by decide +kernel
theorem dX3_scoreFor_52 : decode cX3_scoreFor 52 = .ok (.iconst 1, 1) := by decide +kernel
theorem dX3_scoreFor_53 : decode cX3_scoreFor 53 = .ok (.goto 5, 3) := by decide +kernel
theorem dX3_scoreFor_56 : decode cX3_scoreFor 56 = .ok (.bipush (-3), 2) := by decide +kernel
theorem dX3_scoreFor_58 : decode cX3_scoreFor 58 = .ok (.ireturn, 1) := by decide +kernel
theorem dX3_scoreFor_59 : decode cX3_scoreFor 59 = .ok (.iload_n 1, 1) := by decide +kernel
theorem dX3_scoreFor_60 : decode cX3_scoreFor 60 = .ok (.iconst 4, 1) := by decide +kernel
theorem dX3_scoreFor_61 : decode cX3_scoreFor 61 = .ok (.if_icmp .ne 13, 3) := by decide +kernel
theorem dX3_scoreFor_64 : decode cX3_scoreFor 64 = .ok (.iload_n 1, 1) := by decide +kernel
theorem dX3_scoreFor_65 : decode cX3_scoreFor 65 = .ok (.iload_n 2, 1) := by decide +kernel
theorem dX3_scoreFor_66 : decode cX3_scoreFor 66 = .ok (.invokestatic 215, 3) := by decide +kernel
theorem dX3_scoreFor_69 : decode cX3_scoreFor 69 = .ok (.iconst 2, 1) := by decide +kernel
theorem dX3_scoreFor_70 : decode cX3_scoreFor 70 = .ok (.isub, 1) := by decide +kernel
theorem dX3_scoreFor_71 : decode cX3_scoreFor 71 = .ok (.goto 8, 3) := by decide +kernel
theorem dX3_scoreFor_74 : decode cX3_scoreFor 74 = .ok (.iload_n 1, 1) := by decide +kernel
theorem dX3_scoreFor_75 : decode cX3_scoreFor 75 = .ok (.iload_n 2, 1) := by decide +kernel
theorem dX3_scoreFor_76 : decode cX3_scoreFor 76 = .ok (.invokestatic 215, 3) := by decide +kernel
theorem dX3_scoreFor_79 : decode cX3_scoreFor 79 = .ok (.ireturn, 1) := by decide +kernel
theorem dX3_scoreFor_80 : decode cX3_scoreFor 80 = .ok (.iconst 0, 1) := by decide +kernel
theorem dX3_scoreFor_81 : decode cX3_scoreFor 81 = .ok (.iload_n 1, 1) := by decide +kernel
theorem dX3_scoreFor_82 : decode cX3_scoreFor 82 = .ok (.iload_n 2, 1) := by decide +kernel
theorem dX3_scoreFor_83 : decode cX3_scoreFor 83 = .ok (.invokestatic 218, 3) := by decide +kernel
theorem dX3_scoreFor_86 : decode cX3_scoreFor 86 = .ok (.invokestatic 209, 3) := by decide +kernel
theorem dX3_scoreFor_89 : decode cX3_scoreFor 89 = .ok (.ireturn, 1) := by decide +kernel
theorem dX3_scoreFor_90 : decode cX3_scoreFor 90 = .ok (.iload_n 1, 1) := by decide +kernel
theorem dX3_scoreFor_91 : decode cX3_scoreFor 91 = .ok (.iload_n 2, 1) := by decide +kernel
theorem dX3_scoreFor_92 : decode cX3_scoreFor 92 = .ok (.invokestatic 221, 3) := by decide +kernel
theorem dX3_scoreFor_95 : decode cX3_scoreFor 95 = .ok (.ireturn, 1) := by decide +kernel
theorem dX3_sitterScore_0 : decode cX3_sitterScore 0 = .ok (.iload_n 0, 1) := by decide +kernel
theorem dX3_sitterScore_1 : decode cX3_sitterScore 1 = .ok (.iload_n 1, 1) := by decide +kernel
theorem dX3_sitterScore_2 : decode cX3_sitterScore 2 = .ok (.if_icmp .ne 5, 3) := by decide +kernel
theorem dX3_sitterScore_5 : decode cX3_sitterScore 5 = .ok (.iconst 3, 1) := by decide +kernel
theorem dX3_sitterScore_6 : decode cX3_sitterScore 6 = .ok (.ireturn, 1) := by decide +kernel
theorem dX3_sitterScore_7 : decode cX3_sitterScore 7 = .ok (.iload_n 0, 1) := by decide +kernel
theorem dX3_sitterScore_8 : decode cX3_sitterScore 8 = .ok (.ifCond .ne 7, 3) := by decide +kernel
theorem dX3_sitterScore_11 : decode cX3_sitterScore 11 = .ok (.iconst (-1), 1) := by decide +kernel
theorem dX3_sitterScore_12 : decode cX3_sitterScore 12 = .ok (.goto 5, 3) := by decide +kernel
theorem dX3_sitterScore_15 : decode cX3_sitterScore 15 = .ok (.bipush (-2), 2) := by decide +kernel
theorem dX3_sitterScore_17 : decode cX3_sitterScore 17 = .ok (.ireturn, 1) := by decide +kernel
theorem dX3_cougherScore_0 : decode cX3_cougherScore 0 = .ok (.iload_n 0, 1) := by decide +kernel
theorem dX3_cougherScore_1 : decode cX3_cougherScore 1 = .ok (.iconst 3, 1) := by decide +kernel
theorem dX3_cougherScore_2 : decode cX3_cougherScore 2 = .ok (.if_icmp .ne 12, 3) := by decide +kernel
theorem dX3_cougherScore_5 : decode cX3_cougherScore 5 = .ok (.iload_n 1, 1) := by decide +kernel
theorem dX3_cougherScore_6 : decode cX3_cougherScore 6 = .ok (.iconst 3, 1) := by decide +kernel
theorem dX3_cougherScore_7 : decode cX3_cougherScore 7 = .ok (.if_icmp .ne 7, 3) := by decide +kernel
theorem dX3_cougherScore_10 : decode cX3_cougherScore 10 = .ok (.iconst 5, 1) := by decide +kernel
theorem dX3_cougherScore_11 : decode cX3_cougherScore 11 = .ok (.goto 8, 3) := by decide +kernel
theorem dX3_cougherScore_14 : decode cX3_cougherScore 14 = .ok (.iload_n 0, 1) := by decide +kernel
theorem dX3_cougherScore_15 : decode cX3_cougherScore 15 = .ok (.iload_n 1, 1) := by decide +kernel
theorem dX3_cougherScore_16 : decode cX3_cougherScore 16 = .ok (.invokestatic 221, 3) := by decide +kernel
theorem dX3_cougherScore_19 : decode cX3_cougherScore 19 = .ok (.ireturn, 1) := by decide +kernel
theorem dX3_weeperScore_0 : decode cX3_weeperScore 0 = .ok (.iload_n 0, 1) := by decide +kernel
theorem dX3_weeperScore_1 : decode cX3_weeperScore 1 = .ok (.iconst 1, 1) := by decide +kernel
theorem dX3_weeperScore_2 : decode cX3_weeperScore 2 = .ok (.if_icmp .ne 13, 3) := by decide +kernel
theorem dX3_weeperScore_5 : decode cX3_weeperScore 5 = .ok (.iload_n 0, 1) := by decide +kernel
theorem dX3_weeperScore_6 : decode cX3_weeperScore 6 = .ok (.iload_n 1, 1) := by decide +kernel
theorem dX3_weeperScore_7 : decode cX3_weeperScore 7 = .ok (.invokestatic 221, 3) := by decide +kernel
theorem dX3_weeperScore_10 : decode cX3_weeperScore 10 = .ok (.iconst 1, 1) := by decide +kernel
theorem dX3_weeperScore_11 : decode cX3_weeperScore 11 = .ok (.iadd, 1) := by decide +kernel
theorem dX3_weeperScore_12 : decode cX3_weeperScore 12 = .ok (.goto 8, 3) := by decide +kernel
theorem dX3_weeperScore_15 : decode cX3_weeperScore 15 = .ok (.iload_n 0, 1) := by decide +kernel
theorem dX3_weeperScore_16 : decode cX3_weeperScore 16 = .ok (.iload_n 1, 1) := by decide +kernel
theorem dX3_weeperScore_17 : decode cX3_weeperScore 17 = .ok (.invokestatic 221, 3) := by decide +kernel
theorem dX3_weeperScore_20 : decode cX3_weeperScore 20 = .ok (.ireturn, 1) := by decide +kernel
theorem dX4_init_0 : decode cX4_init 0 = .ok (.aload_n 0, 1) := by decide +kernel
theorem dX4_init_1 : decode cX4_init 1 = .ok (.invokespecial 1, 3) := by decide +kernel
theorem dX4_init_4 : decode cX4_init 4 = .ok (.aload_n 0, 1) := by decide +kernel
theorem dX4_init_5 : decode cX4_init 5 = .ok (.bipush 67, 2) := by decide +kernel
theorem dX4_init_7 : decode cX4_init 7 = .ok (.newarray .int, 2) := by decide +kernel
theorem dX4_init_9 : decode cX4_init 9 = .ok (.putfield 7, 3) := by decide +kernel
theorem dX4_init_12 : decode cX4_init 12 = .ok (.aload_n 0, 1) := by decide +kernel
theorem dX4_init_13 : decode cX4_init 13 = .ok (.bipush 67, 2) := by decide +kernel
theorem dX4_init_15 : decode cX4_init 15 = .ok (.newarray .int, 2) := by decide +kernel
theorem dX4_init_17 : decode cX4_init 17 = .ok (.putfield 13, 3) := by decide +kernel
theorem dX4_init_20 : decode cX4_init 20 = .ok (.aload_n 0, 1) := by decide +kernel
theorem dX4_init_21 : decode cX4_init 21 = .ok (.bipush 67, 2) := by decide +kernel
theorem dX4_init_23 : decode cX4_init 23 = .ok (.newarray .int, 2) := by decide +kernel
theorem dX4_init_25 : decode cX4_init 25 = .ok (.putfield 16, 3) := by decide +kernel
theorem dX4_init_28 : decode cX4_init 28 = .ok (.aload_n 0, 1) := by decide +kernel
theorem dX4_init_29 : decode cX4_init 29 = .ok (.bipush 67, 2) := by decide +kernel
theorem dX4_init_31 : decode cX4_init 31 = .ok (.newarray .int, 2) := by decide +kernel
theorem dX4_init_33 : decode cX4_init 33 = .ok (.putfield 19, 3) := by decide +kernel
theorem dX4_init_36 : decode cX4_init 36 = .ok (.aload_n 0, 1) := by decide +kernel
theorem dX4_init_37 : decode cX4_init 37 = .ok (.bipush 7, 2) := by decide +kernel
theorem dX4_init_39 : decode cX4_init 39 = .ok (.newarray .int, 2) := by decide +kernel
theorem dX4_init_41 : decode cX4_init 41 = .ok (.putfield 22, 3) := by decide +kernel
theorem dX4_init_44 : decode cX4_init 44 = .ok (.aload_n 0, 1) := by decide +kernel
theorem dX4_init_45 : decode cX4_init 45 = .ok (.bipush 120, 2) := by decide +kernel
theorem dX4_init_47 : decode cX4_init 47 = .ok (.newarray .byte, 2) := by decide +kernel
theorem dX4_init_49 : decode cX4_init 49 = .ok (.putfield 25, 3) := by decide +kernel
theorem dX4_init_52 : decode cX4_init 52 = .ok (.aload_n 0, 1) := by decide +kernel
theorem dX4_init_53 : decode cX4_init 53 = .ok (.bipush 8, 2) := by decide +kernel
theorem dX4_init_55 : decode cX4_init 55 = .ok (.newarray .int, 2) := by decide +kernel
theorem dX4_init_57 : decode cX4_init 57 = .ok (.putfield 29, 3) := by decide +kernel
theorem dX4_init_60 : decode cX4_init 60 = .ok (.aload_n 0, 1) := by decide +kernel
theorem dX4_init_61 : decode cX4_init 61 = .ok (.iconst 4, 1) := by decide +kernel
theorem dX4_init_62 : decode cX4_init 62 = .ok (.newarray .int, 2) := by decide +kernel
theorem dX4_init_64 : decode cX4_init 64 = .ok (.putfield 32, 3) := by decide +kernel
theorem dX4_init_67 : decode cX4_init 67 = .ok (.aload_n 0, 1) := by decide +kernel
theorem dX4_init_68 : decode cX4_init 68 = .ok (.iconst 4, 1) := by decide +kernel
theorem dX4_init_69 : decode cX4_init 69 = .ok (.newarray .int, 2) := by decide +kernel
theorem dX4_init_71 : decode cX4_init 71 = .ok (.putfield 35, 3) := by decide +kernel
theorem dX4_init_74 : decode cX4_init 74 = .ok (.aload_n 0, 1) := by decide +kernel
theorem dX4_init_75 : decode cX4_init 75 = .ok (.sipush 160, 3) := by decide +kernel
theorem dX4_init_78 : decode cX4_init 78 = .ok (.newarray .long, 2) := by decide +kernel
theorem dX4_init_80 : decode cX4_init 80 = .ok (.putfield 38, 3) := by decide +kernel
theorem dX4_init_83 : decode cX4_init 83 = .ok (.aload_n 0, 1) := by decide +kernel
theorem dX4_init_84 : decode cX4_init 84 = .ok (.bipush 40, 2) := by decide +kernel
theorem dX4_init_86 : decode cX4_init 86 = .ok (.newarray .long, 2) := by decide +kernel
theorem dX4_init_88 : decode cX4_init 88 = .ok (.putfield 42, 3) := by decide +kernel
theorem dX4_init_91 : decode cX4_init 91 = .ok (.iconst 0, 1) := by decide +kernel
theorem dX4_init_92 : decode cX4_init 92 = .ok (.istore_n 1, 1) := by decide +kernel
theorem dX4_init_93 : decode cX4_init 93 = .ok (.iload_n 1, 1) := by decide +kernel
theorem dX4_init_94 : decode cX4_init 94 = .ok (.bipush 16, 2) := by decide +kernel
theorem dX4_init_96 : decode cX4_init 96 = .ok (.if_icmp .ge 30, 3) := by decide +kernel
theorem dX4_init_99 : decode cX4_init 99 = .ok (.aload_n 0, 1) := by decide +kernel
theorem dX4_init_100 : decode cX4_init 100 = .ok (.getfield 7, 3) := by decide +kernel
theorem dX4_init_103 : decode cX4_init 103 = .ok (.iconst 3, 1) := by decide +kernel
theorem dX4_init_104 : decode cX4_init 104 = .ok (.iload_n 1, 1) := by decide +kernel
theorem dX4_init_105 : decode cX4_init 105 = .ok (.iadd, 1) := by decide +kernel
theorem dX4_init_106 : decode cX4_init 106 = .ok (.iload_n 1, 1) := by decide +kernel
theorem dX4_init_107 : decode cX4_init 107 = .ok (.iconst 5, 1) := by decide +kernel
theorem dX4_init_108 : decode cX4_init 108 = .ok (.irem, 1) := by decide +kernel
theorem dX4_init_109 : decode cX4_init 109 = .ok (.iastore, 1) := by decide +kernel
theorem dX4_init_110 : decode cX4_init 110 = .ok (.aload_n 0, 1) := by decide +kernel
theorem dX4_init_111 : decode cX4_init 111 = .ok (.getfield 7, 3) := by decide +kernel
theorem dX4_init_114 : decode cX4_init 114 = .ok (.bipush 19, 2) := by decide +kernel
theorem dX4_init_116 : decode cX4_init 116 = .ok (.iload_n 1, 1) := by decide +kernel
theorem dX4_init_117 : decode cX4_init 117 = .ok (.iadd, 1) := by decide +kernel
theorem dX4_init_118 : decode cX4_init 118 = .ok (.iconst 5, 1) := by decide +kernel
theorem dX4_init_119 : decode cX4_init 119 = .ok (.iastore, 1) := by decide +kernel
theorem dX4_init_120 : decode cX4_init 120 = .ok (.iinc 1 1, 3) := by decide +kernel
theorem dX4_init_123 : decode cX4_init 123 = .ok (.goto (-30), 3) := by decide +kernel
theorem dX4_init_126 : decode cX4_init 126 = .ok (.return_, 1) := by decide +kernel
theorem dX4_finds_0 : decode cX4_finds 0 = .ok (.aload_n 0, 1) := by decide +kernel
theorem dX4_finds_1 : decode cX4_finds 1 = .ok (.getfield 22, 3) := by decide +kernel
theorem dX4_finds_4 : decode cX4_finds 4 = .ok (.iload_n 1, 1) := by decide +kernel
theorem dX4_finds_5 : decode cX4_finds 5 = .ok (.dup2, 1) := by decide +kernel
theorem dX4_finds_6 : decode cX4_finds 6 = .ok (.iaload, 1) := by decide +kernel
theorem dX4_finds_7 : decode cX4_finds 7 = .ok (.iconst 1, 1) := by decide +kernel
theorem dX4_finds_8 : decode cX4_finds 8 = .ok (.iadd, 1) := by decide +kernel
theorem dX4_finds_9 : decode cX4_finds 9 = .ok (.iastore, 1) := by decide +kernel
theorem dX4_finds_10 : decode cX4_finds 10 = .ok (.ldc 45, 2) := by decide +kernel
theorem dX4_finds_12 : decode cX4_finds 12 = .ok (.iload_n 1, 1) := by decide +kernel
theorem dX4_finds_13 : decode cX4_finds 13 = .ok (.isub, 1) := by decide +kernel
theorem dX4_finds_14 : decode cX4_finds 14 = .ok (.ireturn, 1) := by decide +kernel
theorem dX4_in_0 : decode cX4_in 0 = .ok (.lload_n 0, 1) := by decide +kernel
theorem dX4_in_1 : decode cX4_in 1 = .ok (.lload_n 2, 1) := by decide +kernel
theorem dX4_in_2 : decode cX4_in 2 = .ok (.lcmp, 1) := by decide +kernel
theorem dX4_in_3 : decode cX4_in 3 = .ok (.ifCond .lt 14, 3) := by decide +kernel
theorem dX4_in_6 : decode cX4_in 6 = .ok (.lload_n 0, 1) := by decide +kernel
theorem dX4_in_7 : decode cX4_in 7 = .ok (.lload 4, 2) := by decide +kernel
theorem dX4_in_9 : decode cX4_in 9 = .ok (.lcmp, 1) := by decide +kernel
theorem dX4_in_10 : decode cX4_in 10 = .ok (.ifCond .gt 7, 3) := by decide +kernel
theorem dX4_in_13 : decode cX4_in 13 = .ok (.iconst 1, 1) := by decide +kernel
theorem dX4_in_14 : decode cX4_in 14 = .ok (.goto 4, 3) := by decide +kernel
theorem dX4_in_17 : decode cX4_in 17 = .ok (.iconst 0, 1) := by decide +kernel
theorem dX4_in_18 : decode cX4_in 18 = .ok (.ireturn, 1) := by decide +kernel
theorem dX4_held_0 : decode cX4_held 0 = .ok (.iload_n 0, 1) := by decide +kernel
theorem dX4_held_1 : decode cX4_held 1 = .ok (.iload_n 1, 1) := by decide +kernel
theorem dX4_held_2 : decode cX4_held 2 = .ok (.if_icmp .ge 7, 3) := by decide +kernel
theorem dX4_held_5 : decode cX4_held 5 = .ok (.iload_n 1, 1) := by decide +kernel
theorem dX4_held_6 : decode cX4_held 6 = .ok (.goto 13, 3) := by decide +kernel
theorem dX4_held_9 : decode cX4_held 9 = .ok (.iload_n 0, 1) := by decide +kernel
theorem dX4_held_10 : decode cX4_held 10 = .ok (.iload_n 2, 1) := by decide +kernel
theorem dX4_held_11 : decode cX4_held 11 = .ok (.if_icmp .le 7, 3) := by decide +kernel
theorem dX4_held_14 : decode cX4_held 14 = .ok (.iload_n 2, 1) := by decide +kernel
theorem dX4_held_15 : decode cX4_held 15 = .ok (.goto 4, 3) := by decide +kernel
theorem dX4_held_18 : decode cX4_held 18 = .ok (.iload_n 0, 1) := by decide +kernel
theorem dX4_held_19 : decode cX4_held 19 = .ok (.ireturn, 1) := by decide +kernel
theorem dX4_copies_0 : decode cX4_copies 0 = .ok (.iconst 0, 1) := by decide +kernel
theorem dX4_copies_1 : decode cX4_copies 1 = .ok (.istore_n 2, 1) := by decide +kernel
theorem dX4_copies_2 : decode cX4_copies 2 = .ok (.iload_n 2, 1) := by decide +kernel
theorem dX4_copies_3 : decode cX4_copies 3 = .ok (.bipush 67, 2) := by decide +kernel
theorem dX4_copies_5 : decode cX4_copies 5 = .ok (.if_icmp .ge 15, 3) := by decide +kernel
theorem dX4_copies_8 : decode cX4_copies 8 = .ok (.aload_n 1, 1) := by decide +kernel
theorem dX4_copies_9 : decode cX4_copies 9 = .ok (.iload_n 2, 1) := by decide +kernel
theorem dX4_copies_10 : decode cX4_copies 10 = .ok (.aload_n 0, 1) := by decide +kernel
theorem dX4_copies_11 : decode cX4_copies 11 = .ok (.iload_n 2, 1) := by decide +kernel
theorem dX4_copies_12 : decode cX4_copies 12 = .ok (.iaload, 1) := by decide +kernel
theorem dX4_copies_13 : decode cX4_copies 13 = .ok (.iastore, 1) := by decide +kernel
theorem dX4_copies_14 : decode cX4_copies 14 = .ok (.iinc 2 1, 3) := by decide +kernel
theorem dX4_copies_17 : decode cX4_copies 17 = .ok (.goto (-15), 3) := by decide +kernel
theorem dX4_copies_20 : decode cX4_copies 20 = .ok (.return_, 1) := by decide +kernel
theorem dX4_isPerson_0 : decode cX4_isPerson 0 = .ok (.iload_n 1, 1) := by decide +kernel
theorem dX4_isPerson_1 : decode cX4_isPerson 1 = .ok (.i2l, 1) := by decide +kernel
theorem dX4_isPerson_2 : decode cX4_isPerson 2 = .ok (.lconst 0, 1) := by decide +kernel
theorem dX4_isPerson_3 : decode cX4_isPerson 3 = .ok (.aload_n 0, 1) := by decide +kernel
theorem dX4_isPerson_4 : decode cX4_isPerson 4 = .ok (.getfield 7, 3) := by decide +kernel
theorem dX4_isPerson_7 : decode cX4_isPerson 7 = .ok (.iconst 0, 1) := by decide +kernel
theorem dX4_isPerson_8 : decode cX4_isPerson 8 = .ok (.iaload, 1) := by decide +kernel
theorem dX4_isPerson_9 : decode cX4_isPerson 9 = .ok (.iconst 1, 1) := by decide +kernel
theorem dX4_isPerson_10 : decode cX4_isPerson 10 = .ok (.isub, 1) := by decide +kernel
theorem dX4_isPerson_11 : decode cX4_isPerson 11 = .ok (.i2l, 1) := by decide +kernel
theorem dX4_isPerson_12 : decode cX4_isPerson 12 = .ok (.invokestatic 46, 3) := by decide +kernel
theorem dX4_isPerson_15 : decode cX4_isPerson 15 = .ok (.ireturn, 1) := by decide +kernel
theorem dX4_its_0 : decode cX4_its 0 = .ok (.aload_n 0, 1) := by decide +kernel
theorem dX4_its_1 : decode cX4_its 1 = .ok (.getfield 7, 3) := by decide +kernel
theorem dX4_its_4 : decode cX4_its 4 = .ok (.bipush 35, 2) := by decide +kernel
theorem dX4_its_6 : decode cX4_its 6 = .ok (.iconst 4, 1) := by decide +kernel
theorem dX4_its_7 : decode cX4_its 7 = .ok (.iload_n 1, 1) := by decide +kernel
theorem dX4_its_8 : decode cX4_its 8 = .ok (.imul, 1) := by decide +kernel
theorem dX4_its_9 : decode cX4_its 9 = .ok (.iadd, 1) := by decide +kernel
theorem dX4_its_10 : decode cX4_its 10 = .ok (.iload_n 2, 1) := by decide +kernel
theorem dX4_its_11 : decode cX4_its 11 = .ok (.iadd, 1) := by decide +kernel
theorem dX4_its_12 : decode cX4_its 12 = .ok (.iaload, 1) := by decide +kernel
theorem dX4_its_13 : decode cX4_its 13 = .ok (.ireturn, 1) := by decide +kernel
theorem dX4_sets_0 : decode cX4_sets 0 = .ok (.aload_n 0, 1) := by decide +kernel
theorem dX4_sets_1 : decode cX4_sets 1 = .ok (.getfield 7, 3) := by decide +kernel
theorem dX4_sets_4 : decode cX4_sets 4 = .ok (.bipush 35, 2) := by decide +kernel
theorem dX4_sets_6 : decode cX4_sets 6 = .ok (.iconst 4, 1) := by decide +kernel
theorem dX4_sets_7 : decode cX4_sets 7 = .ok (.iload_n 1, 1) := by decide +kernel
theorem dX4_sets_8 : decode cX4_sets 8 = .ok (.imul, 1) := by decide +kernel
theorem dX4_sets_9 : decode cX4_sets 9 = .ok (.iadd, 1) := by decide +kernel
theorem dX4_sets_10 : decode cX4_sets 10 = .ok (.iload_n 2, 1) := by decide +kernel
theorem dX4_sets_11 : decode cX4_sets 11 = .ok (.iadd, 1) := by decide +kernel
theorem dX4_sets_12 : decode cX4_sets 12 = .ok (.iload_n 3, 1) := by decide +kernel
theorem dX4_sets_13 : decode cX4_sets 13 = .ok (.iastore, 1) := by decide +kernel
theorem dX4_sets_14 : decode cX4_sets 14 = .ok (.return_, 1) := by decide +kernel
theorem dX4_becomes_0 : decode cX4_becomes 0 = .ok (.aload_n 0, 1) := by decide +kernel
theorem dX4_becomes_1 : decode cX4_becomes 1 = .ok (.getfield 7, 3) := by decide +kernel
theorem dX4_becomes_4 : decode cX4_becomes 4 = .ok (.iload_n 1, 1) := by decide +kernel
theorem dX4_becomes_5 : decode cX4_becomes 5 = .ok (.iaload, 1) := by decide +kernel
theorem dX4_becomes_6 : decode cX4_becomes 6 = .ok (.istore_n 3, 1) := by decide +kernel
theorem dX4_becomes_7 : decode cX4_becomes 7 = .ok (.aload_n 0, 1) := by decide +kernel
theorem dX4_becomes_8 : decode cX4_becomes 8 = .ok (.getfield 7, 3) := by decide +kernel
theorem dX4_becomes_11 : decode cX4_becomes 11 = .ok (.iload_n 1, 1) := by decide +kernel
theorem dX4_becomes_12 : decode cX4_becomes 12 = .ok (.iload_n 2, 1) := by decide +kernel
theorem dX4_becomes_13 : decode cX4_becomes 13 = .ok (.iastore, 1) := by decide +kernel
theorem dX4_becomes_14 : decode cX4_becomes 14 = .ok (.iload_n 3, 1) := by decide +kernel
theorem dX4_becomes_15 : decode cX4_becomes 15 = .ok (.ireturn, 1) := by decide +kernel
theorem dX4_isBeside_0 : decode cX4_isBeside 0 = .ok (.aload_n 0, 1) := by decide +kernel
theorem dX4_isBeside_1 : decode cX4_isBeside 1 = .ok (.iload_n 1, 1) := by decide +kernel
theorem dX4_isBeside_2 : decode cX4_isBeside 2 = .ok (.iconst 1, 1) := by decide +kernel
theorem dX4_isBeside_3 : decode cX4_isBeside 3 = .ok (.isub, 1) := by decide +kernel
theorem dX4_isBeside_4 : decode cX4_isBeside 4 = .ok (.invokevirtual 50, 3) := by decide +kernel
theorem dX4_isBeside_7 : decode cX4_isBeside 7 = .ok (.ifCond .eq 15, 3) := by decide +kernel
theorem dX4_isBeside_10 : decode cX4_isBeside 10 = .ok (.aload_n 0, 1) := by decide +kernel
theorem dX4_isBeside_11 : decode cX4_isBeside 11 = .ok (.iload_n 1, 1) := by decide +kernel
theorem dX4_isBeside_12 : decode cX4_isBeside 12 = .ok (.iconst 1, 1) := by decide +kernel
theorem dX4_isBeside_13 : decode cX4_isBeside 13 = .ok (.isub, 1) := by decide +kernel
theorem dX4_isBeside_14 : decode cX4_isBeside 14 = .ok (.iconst 3, 1) := by decide +kernel
theorem dX4_isBeside_15 : decode cX4_isBeside 15 = .ok (.invokevirtual 54, 3) := by decide +kernel
theorem dX4_isBeside_18 : decode cX4_isBeside 18 = .ok (.iload_n 2, 1) := by decide +kernel
theorem dX4_isBeside_19 : decode cX4_isBeside 19 = .ok (.if_icmp .eq 25, 3) := by decide +kernel
theorem dX4_isBeside_22 : decode cX4_isBeside 22 = .ok (.aload_n 0, 1) := by decide +kernel
theorem dX4_isBeside_23 : decode cX4_isBeside 23 = .ok (.iload_n 1, 1) := by decide +kernel
theorem dX4_isBeside_24 : decode cX4_isBeside 24 = .ok (.iconst 1, 1) := by decide +kernel
theorem dX4_isBeside_25 : decode cX4_isBeside 25 = .ok (.iadd, 1) := by decide +kernel
theorem dX4_isBeside_26 : decode cX4_isBeside 26 = .ok (.invokevirtual 50, 3) := by decide +kernel
theorem dX4_isBeside_29 : decode cX4_isBeside 29 = .ok (.ifCond .eq 19, 3) := by decide +kernel
theorem dX4_isBeside_32 : decode cX4_isBeside 32 = .ok (.aload_n 0, 1) := by decide +kernel
theorem dX4_isBeside_33 : decode cX4_isBeside 33 = .ok (.iload_n 1, 1) := by decide +kernel
theorem dX4_isBeside_34 : decode cX4_isBeside 34 = .ok (.iconst 1, 1) := by decide +kernel
theorem dX4_isBeside_35 : decode cX4_isBeside 35 = .ok (.iadd, 1) := by decide +kernel
theorem dX4_isBeside_36 : decode cX4_isBeside 36 = .ok (.iconst 3, 1) := by decide +kernel
theorem dX4_isBeside_37 : decode cX4_isBeside 37 = .ok (.invokevirtual 54, 3) := by decide +kernel
theorem dX4_isBeside_40 : decode cX4_isBeside 40 = .ok (.iload_n 2, 1) := by decide +kernel
theorem dX4_isBeside_41 : decode cX4_isBeside 41 = .ok (.if_icmp .ne 7, 3) := by decide +kernel
theorem dX4_isBeside_44 : decode cX4_isBeside 44 = .ok (.iconst 1, 1) := by decide +kernel
theorem dX4_isBeside_45 : decode cX4_isBeside 45 = .ok (.goto 4, 3) := by decide +kernel
theorem dX4_isBeside_48 : decode cX4_isBeside 48 = .ok (.iconst 0, 1) := by decide +kernel
theorem dX4_isBeside_49 : decode cX4_isBeside 49 = .ok (.ireturn, 1) := by decide +kernel
theorem dX4_doesNow_0 : decode cX4_doesNow 0 = .ok (.aload_n 0, 1) := by decide +kernel
theorem dX4_doesNow_1 : decode cX4_doesNow 1 = .ok (.getfield 7, 3) := by decide +kernel
theorem dX4_doesNow_4 : decode cX4_doesNow 4 = .ok (.iconst 3, 1) := by decide +kernel
theorem dX4_doesNow_5 : decode cX4_doesNow 5 = .ok (.aload_n 0, 1) := by decide +kernel
theorem dX4_doesNow_6 : decode cX4_doesNow 6 = .ok (.getfield 7, 3) := by decide +kernel
theorem dX4_doesNow_9 : decode cX4_doesNow 9 = .ok (.iconst 2, 1) := by decide +kernel
theorem dX4_doesNow_10 : decode cX4_doesNow 10 = .ok (.iaload, 1) := by decide +kernel
theorem dX4_doesNow_11 : decode cX4_doesNow 11 = .ok (.iadd, 1) := by decide +kernel
theorem dX4_doesNow_12 : decode cX4_doesNow 12 = .ok (.iaload, 1) := by decide +kernel
theorem dX4_doesNow_13 : decode cX4_doesNow 13 = .ok (.istore_n 2, 1) := by decide +kernel
theorem dX4_doesNow_14 : decode cX4_doesNow 14 = .ok (.aload_n 0, 1) := by decide +kernel
theorem dX4_doesNow_15 : decode cX4_doesNow 15 = .ok (.iload_n 1, 1) := by decide +kernel
theorem dX4_doesNow_16 : decode cX4_doesNow 16 = .ok (.iconst 1, 1) := by decide +kernel
theorem dX4_doesNow_17 : decode cX4_doesNow 17 = .ok (.invokevirtual 54, 3) := by decide +kernel
theorem dX4_doesNow_20 : decode cX4_doesNow 20 = .ok (.aload_n 0, 1) := by decide +kernel
theorem dX4_doesNow_21 : decode cX4_doesNow 21 = .ok (.getfield 7, 3) := by decide +kernel
theorem dX4_doesNow_24 : decode cX4_doesNow 24 = .ok (.bipush 19, 2) := by decide +kernel
theorem dX4_doesNow_26 : decode cX4_doesNow 26 = .ok (.aload_n 0, 1) := by decide +kernel
theorem dX4_doesNow_27 : decode cX4_doesNow 27 = .ok (.getfield 7, 3) := by decide +kernel
theorem dX4_doesNow_30 : decode cX4_doesNow 30 = .ok (.iconst 2, 1) := by decide +kernel
theorem dX4_doesNow_31 : decode cX4_doesNow 31 = .ok (.iaload, 1) := by decide +kernel
theorem dX4_doesNow_32 : decode cX4_doesNow 32 = .ok (.iadd, 1) := by decide +kernel
theorem dX4_doesNow_33 : decode cX4_doesNow 33 = .ok (.iaload, 1) := by decide +kernel
theorem dX4_doesNow_34 : decode cX4_doesNow 34 = .ok (.if_icmp .lt 7, 3) := by decide +kernel
theorem dX4_doesNow_37 : decode cX4_doesNow 37 = .ok (.iload_n 2, 1) := by decide +kernel
theorem dX4_doesNow_38 : decode cX4_doesNow 38 = .ok (.goto 4, 3) := by decide +kernel
theorem dX4_doesNow_41 : decode cX4_doesNow 41 = .ok (.iconst 0, 1) := by decide +kernel
theorem dX4_doesNow_42 : decode cX4_doesNow 42 = .ok (.istore_n 3, 1) := by decide +kernel
theorem dX4_doesNow_43 : decode cX4_doesNow 43 = .ok (.aload_n 0, 1) := by decide +kernel
theorem dX4_doesNow_44 : decode cX4_doesNow 44 = .ok (.iload_n 1, 1) := by decide +kernel
theorem dX4_doesNow_45 : decode cX4_doesNow 45 = .ok (.iconst 3, 1) := by decide +kernel
theorem dX4_doesNow_46 : decode cX4_doesNow 46 = .ok (.invokevirtual 58, 3) := by decide +kernel
theorem dX4_doesNow_49 : decode cX4_doesNow 49 = .ok (.ifCond .eq 7, 3) := by decide +kernel
theorem dX4_doesNow_52 : decode cX4_doesNow 52 = .ok (.iconst 3, 1) := by decide +kernel
theorem dX4_doesNow_53 : decode cX4_doesNow 53 = .ok (.goto 4, 3) := by decide +kernel
theorem dX4_doesNow_56 : decode cX4_doesNow 56 = .ok (.iload_n 3, 1) := by decide +kernel
theorem dX4_doesNow_57 : decode cX4_doesNow 57 = .ok (.istore 4, 2) := by decide +kernel
theorem dX4_doesNow_59 : decode cX4_doesNow 59 = .ok (.aload_n 0, 1) := by decide +kernel
theorem dX4_doesNow_60 : decode cX4_doesNow 60 = .ok (.iload_n 1, 1) := by decide +kernel
theorem dX4_doesNow_61 : decode cX4_doesNow 61 = .ok (.iconst 1, 1) := by decide +kernel
theorem dX4_doesNow_62 : decode cX4_doesNow 62 = .ok (.invokevirtual 54, 3) := by decide +kernel
theorem dX4_doesNow_65 : decode cX4_doesNow 65 = .ok (.bipush 40, 2) := by decide +kernel
theorem dX4_doesNow_67 : decode cX4_doesNow 67 = .ok (.if_icmp .lt 12, 3) := by decide +kernel
theorem dX4_doesNow_70 : decode cX4_doesNow 70 = .ok (.iload_n 2, 1) := by decide +kernel
theorem dX4_doesNow_71 : decode cX4_doesNow 71 = .ok (.iconst 2, 1) := by decide +kernel
theorem dX4_doesNow_72 : decode cX4_doesNow 72 = .ok (.if_icmp .eq 7, 3) := by decide +kernel
theorem dX4_doesNow_75 : decode cX4_doesNow 75 = .ok (.iconst 1, 1) := by decide +kernel
theorem dX4_doesNow_76 : decode cX4_doesNow 76 = .ok (.goto 4, 3) := by decide +kernel
theorem dX4_doesNow_79 : decode cX4_doesNow 79 = .ok (.iload_n 3, 1) := by decide +kernel
theorem dX4_doesNow_80 : decode cX4_doesNow 80 = .ok (.istore 5, 2) := by decide +kernel
theorem dX4_doesNow_82 : decode cX4_doesNow 82 = .ok (.aload_n 0, 1) := by decide +kernel
theorem dX4_doesNow_83 : decode cX4_doesNow 83 = .ok (.iload_n 1, 1) := by decide +kernel
theorem dX4_doesNow_84 : decode cX4_doesNow 84 = .ok (.iconst 0, 1) := by decide +kernel
theorem dX4_doesNow_85 : decode cX4_doesNow 85 = .ok (.invokevirtual 54, 3) := by decide +kernel
theorem dX4_doesNow_88 : decode cX4_doesNow 88 = .ok (.tableswitch 86 1 5 #[36, 39, 42, 44, 70], 36) := by decide +kernel
theorem dX4_doesNow_124 : decode cX4_doesNow 124 = .ok (.iload 4, 2) := by decide +kernel
theorem dX4_doesNow_126 : decode cX4_doesNow 126 = .ok (.ireturn, 1) := by decide +kernel
theorem dX4_doesNow_127 : decode cX4_doesNow 127 = .ok (.iload 5, 2) := by decide +kernel
theorem dX4_doesNow_129 : decode cX4_doesNow 129 = .ok (.ireturn, 1) := by decide +kernel
theorem dX4_doesNow_130 : decode cX4_doesNow 130 = .ok (.iconst 0, 1) := by decide +kernel
theorem dX4_doesNow_131 : decode cX4_doesNow 131 = .ok (.ireturn, 1) := by decide +kernel
theorem dX4_doesNow_132 : decode cX4_doesNow 132 = .ok (.iload_n 2, 1) := by decide +kernel
theorem dX4_doesNow_133 : decode cX4_doesNow 133 = .ok (.iconst 4, 1) := by decide +kernel
theorem dX4_doesNow_134 : decode cX4_doesNow 134 = .ok (.if_icmp .eq 17, 3) := by decide +kernel
theorem dX4_doesNow_137 : decode cX4_doesNow 137 = .ok (.aload_n 0, 1) := by decide +kernel
theorem dX4_doesNow_138 : decode cX4_doesNow 138 = .ok (.getfield 7, 3) := by decide +kernel
theorem dX4_doesNow_141 : decode cX4_doesNow 141 = .ok (.iconst 2, 1) := by decide +kernel
theorem dX4_doesNow_142 : decode cX4_doesNow 142 = .ok (.iaload, 1) := by decide +kernel
theorem dX4_doesNow_143 : decode cX4_doesNow 143 = .ok (.bipush 8, 2) := by decide +kernel
theorem dX4_doesNow_145 : decode cX4_doesNow 145 = .ok (.irem, 1) := by decide +kernel
theorem dX4_doesNow_146 : decode cX4_doesNow 146 = .ok (.bipush 7, 2) := by decide +kernel
theorem dX4_doesNow_148 : decode cX4_doesNow 148 = .ok (.if_icmp .ne 7, 3) := by decide +kernel
theorem dX4_doesNow_151 : decode cX4_doesNow 151 = .ok (.iconst 4, 1) := by decide +kernel
theorem dX4_doesNow_152 : decode cX4_doesNow 152 = .ok (.goto 5, 3) := by decide +kernel
theorem dX4_doesNow_155 : decode cX4_doesNow 155 = .ok (.iload 4, 2) := by decide +kernel
theorem dX4_doesNow_157 : decode cX4_doesNow 157 = .ok (.ireturn, 1) := by decide +kernel
theorem dX4_doesNow_158 : decode cX4_doesNow 158 = .ok (.aload_n 0, 1) := by decide +kernel
theorem dX4_doesNow_159 : decode cX4_doesNow 159 = .ok (.iload_n 1, 1) := by decide +kernel
theorem dX4_doesNow_160 : decode cX4_doesNow 160 = .ok (.iconst 1, 1) := by decide +kernel
theorem dX4_doesNow_161 : decode cX4_doesNow 161 = .ok (.invokevirtual 58, 3) := by decide +kernel
theorem dX4_doesNow_164 : decode cX4_doesNow 164 = .ok (.ifCond .eq 7, 3) := by decide +kernel
theorem dX4_doesNow_167 : decode cX4_doesNow 167 = .ok (.iconst 1, 1) := by decide +kernel
theorem dX4_doesNow_168 : decode cX4_doesNow 168 = .ok (.goto 5, 3) := by decide +kernel
theorem dX4_doesNow_171 : decode cX4_doesNow 171 = .ok (.iload 5, 2) := by decide +kernel
theorem dX4_doesNow_173 : decode cX4_doesNow 173 = .ok (.ireturn, 1) := by decide +kernel
theorem dX4_doesNow_174 : decode cX4_doesNow 174 = .ok (.iload_n 3, 1) := by decide +kernel
theorem dX4_doesNow_175 : decode cX4_doesNow 175 = .ok (.ireturn, 1) := by decide +kernel
theorem dX4_scoresFor_0 : decode cX4_scoresFor 0 = .ok (.iload_n 2, 1) := by decide +kernel
theorem dX4_scoresFor_1 : decode cX4_scoresFor 1 = .ok (.iload_n 3, 1) := by decide +kernel
theorem dX4_scoresFor_2 : decode cX4_scoresFor 2 = .ok (.if_icmp .ne 7, 3) := by decide +kernel
theorem dX4_scoresFor_5 : decode cX4_scoresFor 5 = .ok (.iconst 3, 1) := by decide +kernel
theorem dX4_scoresFor_6 : decode cX4_scoresFor 6 = .ok (.goto 13, 3) := by decide +kernel
theorem dX4_scoresFor_9 : decode cX4_scoresFor 9 = .ok (.iload_n 2, 1) := by decide +kernel
theorem dX4_scoresFor_10 : decode cX4_scoresFor 10 = .ok (.ifCond .ne 7, 3) := by decide +kernel
theorem dX4_scoresFor_13 : decode cX4_scoresFor 13 = .ok (.iconst (-1), 1) := by decide +kernel
theorem dX4_scoresFor_14 : decode cX4_scoresFor 14 = .ok (.goto 5, 3) := by decide +kernel
theorem dX4_scoresFor_17 : decode cX4_scoresFor 17 = .ok (.bipush (-2), 2) := by decide +kernel
theorem dX4_scoresFor_19 : decode cX4_scoresFor 19 = .ok (.istore 4, 2) := by decide +kernel
theorem dX4_scoresFor_21 : decode cX4_scoresFor 21 = .ok (.iload_n 2, 1) := by decide +kernel
theorem dX4_scoresFor_22 : decode cX4_scoresFor 22 = .ok (.iconst 3, 1) := by decide +kernel
theorem dX4_scoresFor_23 : decode cX4_scoresFor 23 = .ok (.if_icmp .ne 12, 3) := by decide +kernel
theorem dX4_scoresFor_26 : decode cX4_scoresFor 26 = .ok (.iload_n 3, 1) := by decide +kernel
theorem dX4_scoresFor_27 : decode cX4_scoresFor 27 = .ok (.iconst 3, 1) := by decide +kernel
theorem dX4_scoresFor_28 : decode cX4_scoresFor 28 = .ok (.if_icmp .ne 7, 3) := by decide +kernel
theorem dX4_scoresFor_31 : decode cX4_scoresFor 31 = .ok (.iconst 5, 1) := by decide +kernel
theorem dX4_scoresFor_32 : decode cX4_scoresFor 32 = .ok (.goto 5, 3) := by decide +kernel
theorem dX4_scoresFor_35 : decode cX4_scoresFor 35 = .ok (.iload 4, 2) := by decide +kernel
theorem dX4_scoresFor_37 : decode cX4_scoresFor 37 = .ok (.istore 5, 2) := by decide +kernel
theorem dX4_scoresFor_39 : decode cX4_scoresFor 39 = .ok (.iload 4, 2) := by decide +kernel
theorem dX4_scoresFor_41 : decode cX4_scoresFor 41 = .ok (.iload_n 2, 1) := by decide +kernel
theorem dX4_scoresFor_42 : decode cX4_scoresFor 42 = .ok (.iconst 1, 1) := by decide +kernel
theorem dX4_scoresFor_43 : decode cX4_scoresFor 43 = .ok (.if_icmp .ne 7, 3) := by decide +kernel
theorem dX4_scoresFor_46 : decode cX4_scoresFor 46 = .ok (.iconst 1, 1) := by decide +kernel
theorem dX4_scoresFor_47 : decode cX4_scoresFor 47 = .ok (.goto 4, 3) := by decide +kernel
theorem dX4_scoresFor_50 : decode cX4_scoresFor 50 = .ok (.iconst 0, 1) := by decide +kernel
theorem dX4_scoresFor_51 : decode cX4_scoresFor 51 = .ok (.iadd, 1) := by decide +kernel
theorem dX4_scoresFor_52 : decode cX4_scoresFor 52 = .ok (.istore 6, 2) := by decide +kernel
theorem dX4_scoresFor_54 : decode cX4_scoresFor 54 = .ok (.aload_n 0, 1) := by decide +kernel
theorem dX4_scoresFor_55 : decode cX4_scoresFor 55 = .ok (.iload_n 1, 1) := by decide +kernel
theorem dX4_scoresFor_56 : decode cX4_scoresFor 56 = .ok (.iconst 0, 1) := by decide +kernel
theorem dX4_scoresFor_57 : decode cX4_scoresFor 57 = .ok (.invokevirtual 54, 3) := by decide +kernel
theorem dX4_scoresFor_60 : decode cX4_scoresFor 60 = .ok (.tableswitch 76 1 5 #[36, 39, 42, 53, 67], 36) := by decide +kernel
theorem dX4_scoresFor_96 : decode cX4_scoresFor 96 = .ok (.iload 5, 2) := by decide +kernel
theorem dX4_scoresFor_98 : decode cX4_scoresFor 98 = .ok (.ireturn, 1) := by decide +kernel
theorem dX4_scoresFor_99 : decode cX4_scoresFor 99 = .ok (.iload 6, 2) := by decide +kernel
theorem dX4_scoresFor_101 : decode cX4_scoresFor 101 = .ok (.ireturn, 1) := by decide +kernel
theorem dX4_scoresFor_102 : decode cX4_scoresFor 102 = .ok (.iload_n 3, 1) := by decide +kernel
theorem dX4_scoresFor_103 : decode cX4_scoresFor 103 = .ok (.ifCond .ne 7, 3) := by decide +kernel
theorem dX4_scoresFor_106 : decode cX4_scoresFor 106 = .ok (.iconst 1, 1) := by decide +kernel
theorem dX4_scoresFor_107 : decode cX4_scoresFor 107 = .ok (.goto 5, 3) := by decide +kernel
theorem dX4_scoresFor_110 : decode cX4_scoresFor 110 = .ok (.bipush (-3), 2) := by decide +kernel
theorem dX4_scoresFor_112 : decode cX4_scoresFor 112 = .ok (.ireturn, 1) := by decide +kernel
theorem dX4_scoresFor_113 : decode cX4_scoresFor 113 = .ok (.iload 5, 2) := by decide +kernel
theorem dX4_scoresFor_115 : decode cX4_scoresFor 115 = .ok (.iload_n 2, 1) := by decide +kernel
theorem dX4_scoresFor_116 : decode cX4_scoresFor 116 = .ok (.iconst 4, 1) := by decide +kernel
theorem dX4_scoresFor_117 : decode cX4_scoresFor 117 = .ok (.if_icmp .ne 7, 3) := by decide +kernel
theorem dX4_scoresFor_120 : decode cX4_scoresFor 120 = .ok (.iconst 2, 1) := by decide +kernel
theorem dX4_scoresFor_121 : decode cX4_scoresFor 121 = .ok (.goto 4, 3) := by decide +kernel
theorem dX4_scoresFor_124 : decode cX4_scoresFor 124 = .ok (.iconst 0, 1) := by decide +kernel
theorem dX4_scoresFor_125 : decode cX4_scoresFor 125 = .ok (.isub, 1) := by decide +kernel
theorem dX4_scoresFor_126 : decode cX4_scoresFor 126 = .ok (.ireturn, 1) := by decide +kernel
theorem dX4_scoresFor_127 : decode cX4_scoresFor 127 = .ok (.iload 6, 2) := by decide +kernel
theorem dX4_scoresFor_129 : decode cX4_scoresFor 129 = .ok (.iconst 0, 1) := by decide +kernel
theorem dX4_scoresFor_130 : decode cX4_scoresFor 130 = .ok (.bipush 99, 2) := by decide +kernel
theorem dX4_scoresFor_132 : decode cX4_scoresFor 132 = .ok (.invokestatic 62, 3) := by decide +kernel
theorem dX4_scoresFor_135 : decode cX4_scoresFor 135 = .ok (.ireturn, 1) := by decide +kernel
theorem dX4_scoresFor_136 : decode cX4_scoresFor 136 = .ok (.iload 4, 2) := by decide +kernel
theorem dX4_scoresFor_138 : decode cX4_scoresFor 138 = .ok (.ireturn, 1) := by decide +kernel
theorem dX4_stales_0 : decode cX4_stales 0 = .ok (.aload_n 0, 1) := by decide +kernel
theorem dX4_stales_1 : decode cX4_stales 1 = .ok (.iload_n 1, 1) := by decide +kernel
theorem dX4_stales_2 : decode cX4_stales 2 = .ok (.iconst 0, 1) := by decide +kernel
theorem dX4_stales_3 : decode cX4_stales 3 = .ok (.invokevirtual 54, 3) := by decide +kernel
theorem dX4_stales_6 : decode cX4_stales 6 = .ok (.tableswitch 46 1 5 #[34, 36, 39, 42, 44], 34) := by decide +kernel
theorem dX4_stales_40 : decode cX4_stales 40 = .ok (.iconst 3, 1) := by decide +kernel
theorem dX4_stales_41 : decode cX4_stales 41 = .ok (.ireturn, 1) := by decide +kernel
theorem dX4_stales_42 : decode cX4_stales 42 = .ok (.bipush 8, 2) := by decide +kernel
theorem dX4_stales_44 : decode cX4_stales 44 = .ok (.ireturn, 1) := by decide +kernel
theorem dX4_stales_45 : decode cX4_stales 45 = .ok (.bipush (-5), 2) := by decide +kernel
theorem dX4_stales_47 : decode cX4_stales 47 = .ok (.ireturn, 1) := by decide +kernel
theorem dX4_stales_48 : decode cX4_stales 48 = .ok (.iconst 0, 1) := by decide +kernel
theorem dX4_stales_49 : decode cX4_stales 49 = .ok (.ireturn, 1) := by decide +kernel
theorem dX4_stales_50 : decode cX4_stales 50 = .ok (.iconst 5, 1) := by decide +kernel
theorem dX4_stales_51 : decode cX4_stales 51 = .ok (.ireturn, 1) := by decide +kernel
theorem dX4_stales_52 : decode cX4_stales 52 = .ok (.iconst 4, 1) := by decide +kernel
theorem dX4_stales_53 : decode cX4_stales 53 = .ok (.ireturn, 1) := by decide +kernel
theorem dX4_momentGoes_0 : decode cX4_momentGoes 0 = .ok (.aload_n 0, 1) := by decide +kernel
theorem dX4_momentGoes_1 : decode cX4_momentGoes 1 = .ok (.getfield 7, 3) := by decide +kernel
theorem dX4_momentGoes_4 : decode cX4_momentGoes 4 = .ok (.iconst 3, 1) := by decide +kernel
theorem dX4_momentGoes_5 : decode cX4_momentGoes 5 = .ok (.aload_n 0, 1) := by decide +kernel
theorem dX4_momentGoes_6 : decode cX4_momentGoes 6 = .ok (.getfield 7, 3) := by decide +kernel
theorem dX4_momentGoes_9 : decode cX4_momentGoes 9 = .ok (.iconst 2, 1) := by decide +kernel
theorem dX4_momentGoes_10 : decode cX4_momentGoes 10 = .ok (.iaload, 1) := by decide +kernel
theorem dX4_momentGoes_11 : decode cX4_momentGoes 11 = .ok (.iadd, 1) := by decide +kernel
theorem dX4_momentGoes_12 : decode cX4_momentGoes 12 = .ok (.iaload, 1) := by decide +kernel
theorem dX4_momentGoes_13 : decode cX4_momentGoes 13 = .ok (.istore_n 1, 1) := by decide +kernel
theorem dX4_momentGoes_14 : decode cX4_momentGoes 14 = .ok (.iconst 0, 1) := by decide +kernel
theorem dX4_momentGoes_15 : decode cX4_momentGoes 15 = .ok (.istore_n 2, 1) := by decide +kernel
theorem dX4_momentGoes_16 : decode cX4_momentGoes 16 = .ok (.iload_n 2, 1) := by decide +kernel
theorem dX4_momentGoes_17 : decode cX4_momentGoes 17 = .ok (.aload_n 0, 1) := by decide +kernel
theorem dX4_momentGoes_18 : decode cX4_momentGoes 18 = .ok (.getfield 7, 3) := by decide +kernel
theorem dX4_momentGoes_21 : decode cX4_momentGoes 21 = .ok (.iconst 0, 1) := by decide +kernel
theorem dX4_momentGoes_22 : decode cX4_momentGoes 22 = .ok (.iaload, 1) := by decide +kernel
theorem dX4_momentGoes_23 : decode cX4_momentGoes 23 = .ok (.if_icmp .ge 20, 3) := by decide +kernel
theorem dX4_momentGoes_26 : decode cX4_momentGoes 26 = .ok (.aload_n 0, 1) := by decide +kernel
theorem dX4_momentGoes_27 : decode cX4_momentGoes 27 = .ok (.getfield 29, 3) := by decide +kernel
theorem dX4_momentGoes_30 : decode cX4_momentGoes 30 = .ok (.iload_n 2, 1) := by decide +kernel
theorem dX4_momentGoes_31 : decode cX4_momentGoes 31 = .ok (.aload_n 0, 1) := by decide +kernel
theorem dX4_momentGoes_32 : decode cX4_momentGoes 32 = .ok (.iload_n 2, 1) := by decide +kernel
theorem dX4_momentGoes_33 : decode cX4_momentGoes 33 = .ok (.invokevirtual 66, 3) := by decide +kernel
theorem dX4_momentGoes_36 : decode cX4_momentGoes 36 = .ok (.iastore, 1) := by decide +kernel
theorem dX4_momentGoes_37 : decode cX4_momentGoes 37 = .ok (.iinc 2 1, 3) := by decide +kernel
theorem dX4_momentGoes_40 : decode cX4_momentGoes 40 = .ok (.goto (-24), 3) := by decide +kernel
theorem dX4_momentGoes_43 : decode cX4_momentGoes 43 = .ok (.iconst 0, 1) := by decide +kernel
theorem dX4_momentGoes_44 : decode cX4_momentGoes 44 = .ok (.istore_n 2, 1) := by decide +kernel
theorem dX4_momentGoes_45 : decode cX4_momentGoes 45 = .ok (.iload_n 2, 1) := by decide +kernel
theorem dX4_momentGoes_46 : decode cX4_momentGoes 46 = .ok (.aload_n 0, 1) := by decide +kernel
theorem dX4_momentGoes_47 : decode cX4_momentGoes 47 = .ok (.getfield 7, 3) := by decide +kernel
theorem dX4_momentGoes_50 : decode cX4_momentGoes 50 = .ok (.iconst 0, 1) := by decide +kernel
theorem dX4_momentGoes_51 : decode cX4_momentGoes 51 = .ok (.iaload, 1) := by decide +kernel
theorem dX4_momentGoes_52 : decode cX4_momentGoes 52 = .ok (.if_icmp .ge 55, 3) := by decide +kernel
theorem dX4_momentGoes_55 : decode cX4_momentGoes 55 = .ok (.aload_n 0, 1) := by decide +kernel
theorem dX4_momentGoes_56 : decode cX4_momentGoes 56 = .ok (.iload_n 2, 1) := by decide +kernel
theorem dX4_momentGoes_57 : decode cX4_momentGoes 57 = .ok (.iconst 2, 1) := by decide +kernel
theorem dX4_momentGoes_58 : decode cX4_momentGoes 58 = .ok (.aload_n 0, 1) := by decide +kernel
theorem dX4_momentGoes_59 : decode cX4_momentGoes 59 = .ok (.iload_n 2, 1) := by decide +kernel
theorem dX4_momentGoes_60 : decode cX4_momentGoes 60 = .ok (.iconst 2, 1) := by decide +kernel
theorem dX4_momentGoes_61 : decode cX4_momentGoes 61 = .ok (.invokevirtual 54, 3) := by decide +kernel
theorem dX4_momentGoes_64 : decode cX4_momentGoes 64 = .ok (.aload_n 0, 1) := by decide +kernel
theorem dX4_momentGoes_65 : decode cX4_momentGoes 65 = .ok (.iload_n 2, 1) := by decide +kernel
theorem dX4_momentGoes_66 : decode cX4_momentGoes 66 = .ok (.aload_n 0, 1) := by decide +kernel
theorem dX4_momentGoes_67 : decode cX4_momentGoes 67 = .ok (.getfield 29, 3) := by decide +kernel
theorem dX4_momentGoes_70 : decode cX4_momentGoes 70 = .ok (.iload_n 2, 1) := by decide +kernel
theorem dX4_momentGoes_71 : decode cX4_momentGoes 71 = .ok (.iaload, 1) := by decide +kernel
theorem dX4_momentGoes_72 : decode cX4_momentGoes 72 = .ok (.iload_n 1, 1) := by decide +kernel
theorem dX4_momentGoes_73 : decode cX4_momentGoes 73 = .ok (.invokevirtual 70, 3) := by decide +kernel
theorem dX4_momentGoes_76 : decode cX4_momentGoes 76 = .ok (.iadd, 1) := by decide +kernel
theorem dX4_momentGoes_77 : decode cX4_momentGoes 77 = .ok (.sipush (-9999), 3) := by decide +kernel
theorem dX4_momentGoes_80 : decode cX4_momentGoes 80 = .ok (.sipush 9999, 3) := by decide +kernel
theorem dX4_momentGoes_83 : decode cX4_momentGoes 83 = .ok (.invokestatic 62, 3) := by decide +kernel
theorem dX4_momentGoes_86 : decode cX4_momentGoes 86 = .ok (.invokevirtual 73, 3) := by decide +kernel
theorem dX4_momentGoes_89 : decode cX4_momentGoes 89 = .ok (.aload_n 0, 1) := by decide +kernel
theorem dX4_momentGoes_90 : decode cX4_momentGoes 90 = .ok (.iload_n 2, 1) := by decide +kernel
theorem dX4_momentGoes_91 : decode cX4_momentGoes 91 = .ok (.iconst 3, 1) := by decide +kernel
theorem dX4_momentGoes_92 : decode cX4_momentGoes 92 = .ok (.aload_n 0, 1) := by decide +kernel
theorem dX4_momentGoes_93 : decode cX4_momentGoes 93 = .ok (.getfield 29, 3) := by decide +kernel
theorem dX4_momentGoes_96 : decode cX4_momentGoes 96 = .ok (.iload_n 2, 1) := by decide +kernel
theorem dX4_momentGoes_97 : decode cX4_momentGoes 97 = .ok (.iaload, 1) := by decide +kernel
theorem dX4_momentGoes_98 : decode cX4_momentGoes 98 = .ok (.invokevirtual 73, 3) := by decide +kernel
theorem dX4_momentGoes_101 : decode cX4_momentGoes 101 = .ok (.iinc 2 1, 3) := by decide +kernel
theorem dX4_momentGoes_104 : decode cX4_momentGoes 104 = .ok (.goto (-59), 3) := by decide +kernel
theorem dX4_momentGoes_107 : decode cX4_momentGoes 107 = .ok (.aload_n 0, 1) := by decide +kernel
theorem dX4_momentGoes_108 : decode cX4_momentGoes 108 = .ok (.getfield 7, 3) := by decide +kernel
theorem dX4_momentGoes_111 : decode cX4_momentGoes 111 = .ok (.iconst 2, 1) := by decide +kernel
theorem dX4_momentGoes_112 : decode cX4_momentGoes 112 = .ok (.aload_n 0, 1) := by decide +kernel
theorem dX4_momentGoes_113 : decode cX4_momentGoes 113 = .ok (.getfield 7, 3) := by decide +kernel
theorem dX4_momentGoes_116 : decode cX4_momentGoes 116 = .ok (.iconst 2, 1) := by decide +kernel
theorem dX4_momentGoes_117 : decode cX4_momentGoes 117 = .ok (.iaload, 1) := by decide +kernel
theorem dX4_momentGoes_118 : decode cX4_momentGoes 118 = .ok (.iconst 1, 1) := by decide +kernel
theorem dX4_momentGoes_119 : decode cX4_momentGoes 119 = .ok (.iadd, 1) := by decide +kernel
theorem dX4_momentGoes_120 : decode cX4_momentGoes 120 = .ok (.bipush 16, 2) := by decide +kernel
theorem dX4_momentGoes_122 : decode cX4_momentGoes 122 = .ok (.irem, 1) := by decide +kernel
theorem dX4_momentGoes_123 : decode cX4_momentGoes 123 = .ok (.iastore, 1) := by decide +kernel
theorem dX4_momentGoes_124 : decode cX4_momentGoes 124 = .ok (.aload_n 0, 1) := by decide +kernel
theorem dX4_momentGoes_125 : decode cX4_momentGoes 125 = .ok (.getfield 7, 3) := by decide +kernel
theorem dX4_momentGoes_128 : decode cX4_momentGoes 128 = .ok (.iconst 2, 1) := by decide +kernel
theorem dX4_momentGoes_129 : decode cX4_momentGoes 129 = .ok (.iaload, 1) := by decide +kernel
theorem dX4_momentGoes_130 : decode cX4_momentGoes 130 = .ok (.ifCond .ne 62, 3) := by decide +kernel
theorem dX4_momentGoes_133 : decode cX4_momentGoes 133 = .ok (.iconst 0, 1) := by decide +kernel
theorem dX4_momentGoes_134 : decode cX4_momentGoes 134 = .ok (.istore_n 2, 1) := by decide +kernel
theorem dX4_momentGoes_135 : decode cX4_momentGoes 135 = .ok (.iload_n 2, 1) := by decide +kernel
theorem dX4_momentGoes_136 : decode cX4_momentGoes 136 = .ok (.aload_n 0, 1) := by decide +kernel
theorem dX4_momentGoes_137 : decode cX4_momentGoes 137 = .ok (.getfield 7, 3) := by decide +kernel
theorem dX4_momentGoes_140 : decode cX4_momentGoes 140 = .ok (.iconst 0, 1) := by decide +kernel
theorem dX4_momentGoes_141 : decode cX4_momentGoes 141 = .ok (.iaload, 1) := by decide +kernel
theorem dX4_momentGoes_142 : decode cX4_momentGoes 142 = .ok (.if_icmp .ge 40, 3) := by decide +kernel
theorem dX4_momentGoes_145 : decode cX4_momentGoes 145 = .ok (.aload_n 0, 1) := by decide +kernel
theorem dX4_momentGoes_146 : decode cX4_momentGoes 146 = .ok (.iload_n 2, 1) := by decide +kernel
theorem dX4_momentGoes_147 : decode cX4_momentGoes 147 = .ok (.iconst 1, 1) := by decide +kernel
theorem dX4_momentGoes_148 : decode cX4_momentGoes 148 = .ok (.aload_n 0, 1) := by decide +kernel
theorem dX4_momentGoes_149 : decode cX4_momentGoes 149 = .ok (.iload_n 2, 1) := by decide +kernel
theorem dX4_momentGoes_150 : decode cX4_momentGoes 150 = .ok (.iconst 1, 1) := by decide +kernel
theorem dX4_momentGoes_151 : decode cX4_momentGoes 151 = .ok (.invokevirtual 54, 3) := by decide +kernel
theorem dX4_momentGoes_154 : decode cX4_momentGoes 154 = .ok (.aload_n 0, 1) := by decide +kernel
theorem dX4_momentGoes_155 : decode cX4_momentGoes 155 = .ok (.iload_n 2, 1) := by decide +kernel
theorem dX4_momentGoes_156 : decode cX4_momentGoes 156 = .ok (.invokevirtual 77, 3) := by decide +kernel
theorem dX4_momentGoes_159 : decode cX4_momentGoes 159 = .ok (.isub, 1) := by decide +kernel
theorem dX4_momentGoes_160 : decode cX4_momentGoes 160 = .ok (.iconst 0, 1) := by decide +kernel
theorem dX4_momentGoes_161 : decode cX4_momentGoes 161 = .ok (.bipush 99, 2) := by decide +kernel
theorem dX4_momentGoes_163 : decode cX4_momentGoes 163 = .ok (.invokestatic 62, 3) := by decide +kernel
theorem dX4_momentGoes_166 : decode cX4_momentGoes 166 = .ok (.invokevirtual 73, 3) := by decide +kernel
theorem dX4_momentGoes_169 : decode cX4_momentGoes 169 = .ok (.aload_n 0, 1) := by decide +kernel
theorem dX4_momentGoes_170 : decode cX4_momentGoes 170 = .ok (.iload_n 2, 1) := by decide +kernel
theorem dX4_momentGoes_171 : decode cX4_momentGoes 171 = .ok (.iconst 3, 1) := by decide +kernel
theorem dX4_momentGoes_172 : decode cX4_momentGoes 172 = .ok (.iconst 0, 1) := by decide +kernel
theorem dX4_momentGoes_173 : decode cX4_momentGoes 173 = .ok (.invokevirtual 73, 3) := by decide +kernel
theorem dX4_momentGoes_176 : decode cX4_momentGoes 176 = .ok (.iinc 2 1, 3) := by decide +kernel
theorem dX4_momentGoes_179 : decode cX4_momentGoes 179 = .ok (.goto (-44), 3) := by decide +kernel
theorem dX4_momentGoes_182 : decode cX4_momentGoes 182 = .ok (.aload_n 0, 1) := by decide +kernel
theorem dX4_momentGoes_183 : decode cX4_momentGoes 183 = .ok (.getfield 7, 3) := by decide +kernel
theorem dX4_momentGoes_186 : decode cX4_momentGoes 186 = .ok (.iconst 1, 1) := by decide +kernel
theorem dX4_momentGoes_187 : decode cX4_momentGoes 187 = .ok (.dup2, 1) := by decide +kernel
theorem dX4_momentGoes_188 : decode cX4_momentGoes 188 = .ok (.iaload, 1) := by decide +kernel
theorem dX4_momentGoes_189 : decode cX4_momentGoes 189 = .ok (.iconst 1, 1) := by decide +kernel
theorem dX4_momentGoes_190 : decode cX4_momentGoes 190 = .ok (.iadd, 1) := by decide +kernel
theorem dX4_momentGoes_191 : decode cX4_momentGoes 191 = .ok (.iastore, 1) := by decide +kernel
theorem dX4_momentGoes_192 : decode cX4_momentGoes 192 = .ok (.return_, 1) := by decide +kernel
theorem dX4_momentsGo_0 : decode cX4_momentsGo 0 = .ok (.iconst 0, 1) := by decide +kernel
theorem dX4_momentsGo_1 : decode cX4_momentsGo 1 = .ok (.istore_n 2, 1) := by decide +kernel
theorem dX4_momentsGo_2 : decode cX4_momentsGo 2 = .ok (.iload_n 2, 1) := by decide +kernel
theorem dX4_momentsGo_3 : decode cX4_momentsGo 3 = .ok (.iload_n 1, 1) := by decide +kernel
theorem dX4_momentsGo_4 : decode cX4_momentsGo 4 = .ok (.if_icmp .ge 13, 3) := by decide +kernel
theorem dX4_momentsGo_7 : decode cX4_momentsGo 7 = .ok (.aload_n 0, 1) := by decide +kernel
theorem dX4_momentsGo_8 : decode cX4_momentsGo 8 = .ok (.invokevirtual 80, 3) := by decide +kernel
theorem dX4_momentsGo_11 : decode cX4_momentsGo 11 = .ok (.iinc 2 1, 3) := by decide +kernel
theorem dX4_momentsGo_14 : decode cX4_momentsGo 14 = .ok (.goto (-12), 3) := by decide +kernel
theorem dX4_momentsGo_17 : decode cX4_momentsGo 17 = .ok (.return_, 1) := by decide +kernel
theorem dX4_sumOf_0 : decode cX4_sumOf 0 = .ok (.iconst 0, 1) := by decide +kernel
theorem dX4_sumOf_1 : decode cX4_sumOf 1 = .ok (.istore_n 2, 1) := by decide +kernel
theorem dX4_sumOf_2 : decode cX4_sumOf 2 = .ok (.iconst 0, 1) := by decide +kernel
theorem dX4_sumOf_3 : decode cX4_sumOf 3 = .ok (.istore_n 3, 1) := by decide +kernel
end
section
theorem dX4_sumOf_4 : decode cX4_sumOf 4 = .ok (.iload_n 3, 1) := by decide +kernel
theorem dX4_sumOf_5 : decode cX4_sumOf 5 = .ok (.aload_n 0, 1) := by decide +kernel
theorem dX4_sumOf_6 : decode cX4_sumOf 6 = .ok (.getfield 7, 3) := by decide +kernel
theorem dX4_sumOf_9 : decode cX4_sumOf 9 = .ok (.iconst 0, 1) := by decide +kernel
theorem dX4_sumOf_10 : decode cX4_sumOf 10 = .ok (.iaload, 1) := by decide +kernel
theorem dX4_sumOf_11 : decode cX4_sumOf 11 = .ok (.if_icmp .ge 18, 3) := by decide +kernel
theorem dX4_sumOf_14 : decode cX4_sumOf 14 = .ok (.iload_n 2, 1) := by decide +kernel
theorem dX4_sumOf_15 : decode cX4_sumOf 15 = .ok (.aload_n 0, 1) := by decide +kernel
theorem dX4_sumOf_16 : decode cX4_sumOf 16 = .ok (.iload_n 3, 1) := by decide +kernel
theorem dX4_sumOf_17 : decode cX4_sumOf 17 = .ok (.iload_n 1, 1) := by decide +kernel
theorem dX4_sumOf_18 : decode cX4_sumOf 18 = .ok (.invokevirtual 54, 3) := by decide +kernel
theorem dX4_sumOf_21 : decode cX4_sumOf 21 = .ok (.iadd, 1) := by decide +kernel
theorem dX4_sumOf_22 : decode cX4_sumOf 22 = .ok (.istore_n 2, 1) := by decide +kernel
theorem dX4_sumOf_23 : decode cX4_sumOf 23 = .ok (.iinc 3 1, 3) := by decide +kernel
theorem dX4_sumOf_26 : decode cX4_sumOf 26 = .ok (.goto (-22), 3) := by decide +kernel
theorem dX4_sumOf_29 : decode cX4_sumOf 29 = .ok (.iload_n 2, 1) := by decide +kernel
theorem dX4_sumOf_30 : decode cX4_sumOf 30 = .ok (.ireturn, 1) := by decide +kernel
theorem dX4_isMoment_0 : decode cX4_isMoment 0 = .ok (.iload_n 0, 1) := by decide +kernel
theorem dX4_isMoment_1 : decode cX4_isMoment 1 = .ok (.i2l, 1) := by decide +kernel
theorem dX4_isMoment_2 : decode cX4_isMoment 2 = .ok (.lconst 0, 1) := by decide +kernel
theorem dX4_isMoment_3 : decode cX4_isMoment 3 = .ok (.ldc2_w 83, 3) := by decide +kernel
theorem dX4_isMoment_6 : decode cX4_isMoment 6 = .ok (.invokestatic 46, 3) := by decide +kernel
theorem dX4_isMoment_9 : decode cX4_isMoment 9 = .ok (.ireturn, 1) := by decide +kernel
theorem dX4_isDone_0 : decode cX4_isDone 0 = .ok (.iload_n 0, 1) := by decide +kernel
theorem dX4_isDone_1 : decode cX4_isDone 1 = .ok (.i2l, 1) := by decide +kernel
theorem dX4_isDone_2 : decode cX4_isDone 2 = .ok (.lconst 0, 1) := by decide +kernel
theorem dX4_isDone_3 : decode cX4_isDone 3 = .ok (.ldc2_w 85, 3) := by decide +kernel
theorem dX4_isDone_6 : decode cX4_isDone 6 = .ok (.invokestatic 46, 3) := by decide +kernel
theorem dX4_isDone_9 : decode cX4_isDone 9 = .ok (.ireturn, 1) := by decide +kernel
theorem dX4_play_0 : decode cX4_play 0 = .ok (.iload_n 1, 1) := by decide +kernel
theorem dX4_play_1 : decode cX4_play 1 = .ok (.invokestatic 87, 3) := by decide +kernel
theorem dX4_play_4 : decode cX4_play 4 = .ok (.ifCond .eq 35, 3) := by decide +kernel
theorem dX4_play_7 : decode cX4_play 7 = .ok (.iload_n 2, 1) := by decide +kernel
theorem dX4_play_8 : decode cX4_play 8 = .ok (.i2l, 1) := by decide +kernel
theorem dX4_play_9 : decode cX4_play 9 = .ok (.lconst 0, 1) := by decide +kernel
theorem dX4_play_10 : decode cX4_play 10 = .ok (.lconst 1, 1) := by decide +kernel
theorem dX4_play_11 : decode cX4_play 11 = .ok (.invokestatic 46, 3) := by decide +kernel
theorem dX4_play_14 : decode cX4_play 14 = .ok (.ifCond .eq 25, 3) := by decide +kernel
theorem dX4_play_17 : decode cX4_play 17 = .ok (.iload_n 3, 1) := by decide +kernel
theorem dX4_play_18 : decode cX4_play 18 = .ok (.i2l, 1) := by decide +kernel
theorem dX4_play_19 : decode cX4_play 19 = .ok (.lconst 0, 1) := by decide +kernel
theorem dX4_play_20 : decode cX4_play 20 = .ok (.iload_n 2, 1) := by decide +kernel
theorem dX4_play_21 : decode cX4_play 21 = .ok (.ifCond .ne 9, 3) := by decide +kernel
theorem dX4_play_24 : decode cX4_play 24 = .ok (.ldc2_w 85, 3) := by decide +kernel
theorem dX4_play_27 : decode cX4_play 27 = .ok (.goto 6, 3) := by decide +kernel
theorem dX4_play_30 : decode cX4_play 30 = .ok (.ldc2_w 90, 3) := by decide +kernel
theorem dX4_play_33 : decode cX4_play 33 = .ok (.invokestatic 46, 3) := by decide +kernel
theorem dX4_play_36 : decode cX4_play 36 = .ok (.ifCond .ne 9, 3) := by decide +kernel
theorem dX4_play_39 : decode cX4_play 39 = .ok (.aload_n 0, 1) := by decide +kernel
theorem dX4_play_40 : decode cX4_play 40 = .ok (.iconst 0, 1) := by decide +kernel
theorem dX4_play_41 : decode cX4_play 41 = .ok (.invokevirtual 92, 3) := by decide +kernel
theorem dX4_play_44 : decode cX4_play 44 = .ok (.ireturn, 1) := by decide +kernel
theorem dX4_play_45 : decode cX4_play 45 = .ok (.aload_n 0, 1) := by decide +kernel
theorem dX4_play_46 : decode cX4_play 46 = .ok (.iload_n 2, 1) := by decide +kernel
theorem dX4_play_47 : decode cX4_play 47 = .ok (.ifCond .ne 7, 3) := by decide +kernel
theorem dX4_play_50 : decode cX4_play 50 = .ok (.iconst 3, 1) := by decide +kernel
theorem dX4_play_51 : decode cX4_play 51 = .ok (.goto 5, 3) := by decide +kernel
theorem dX4_play_54 : decode cX4_play 54 = .ok (.bipush 19, 2) := by decide +kernel
theorem dX4_play_56 : decode cX4_play 56 = .ok (.iload_n 1, 1) := by decide +kernel
theorem dX4_play_57 : decode cX4_play 57 = .ok (.iadd, 1) := by decide +kernel
theorem dX4_play_58 : decode cX4_play 58 = .ok (.iload_n 3, 1) := by decide +kernel
theorem dX4_play_59 : decode cX4_play 59 = .ok (.invokevirtual 95, 3) := by decide +kernel
theorem dX4_play_62 : decode cX4_play 62 = .ok (.ireturn, 1) := by decide +kernel
theorem dX4_doers_0 : decode cX4_doers 0 = .ok (.iconst 0, 1) := by decide +kernel
theorem dX4_doers_1 : decode cX4_doers 1 = .ok (.istore_n 3, 1) := by decide +kernel
theorem dX4_doers_2 : decode cX4_doers 2 = .ok (.iconst 0, 1) := by decide +kernel
theorem dX4_doers_3 : decode cX4_doers 3 = .ok (.istore 4, 2) := by decide +kernel
theorem dX4_doers_5 : decode cX4_doers 5 = .ok (.iconst 0, 1) := by decide +kernel
theorem dX4_doers_6 : decode cX4_doers 6 = .ok (.istore 5, 2) := by decide +kernel
theorem dX4_doers_8 : decode cX4_doers 8 = .ok (.iload 5, 2) := by decide +kernel
theorem dX4_doers_10 : decode cX4_doers 10 = .ok (.aload_n 0, 1) := by decide +kernel
theorem dX4_doers_11 : decode cX4_doers 11 = .ok (.getfield 7, 3) := by decide +kernel
theorem dX4_doers_14 : decode cX4_doers 14 = .ok (.iconst 0, 1) := by decide +kernel
theorem dX4_doers_15 : decode cX4_doers 15 = .ok (.iaload, 1) := by decide +kernel
theorem dX4_doers_16 : decode cX4_doers 16 = .ok (.if_icmp .ge 57, 3) := by decide +kernel
theorem dX4_doers_19 : decode cX4_doers 19 = .ok (.aload_n 0, 1) := by decide +kernel
theorem dX4_doers_20 : decode cX4_doers 20 = .ok (.iload 5, 2) := by decide +kernel
theorem dX4_doers_22 : decode cX4_doers 22 = .ok (.invokevirtual 66, 3) := by decide +kernel
theorem dX4_doers_25 : decode cX4_doers 25 = .ok (.iload_n 1, 1) := by decide +kernel
theorem dX4_doers_26 : decode cX4_doers 26 = .ok (.if_icmp .ne 7, 3) := by decide +kernel
theorem dX4_doers_29 : decode cX4_doers 29 = .ok (.iconst 1, 1) := by decide +kernel
theorem dX4_doers_30 : decode cX4_doers 30 = .ok (.goto 4, 3) := by decide +kernel
theorem dX4_doers_33 : decode cX4_doers 33 = .ok (.iconst 0, 1) := by decide +kernel
theorem dX4_doers_34 : decode cX4_doers 34 = .ok (.istore 6, 2) := by decide +kernel
theorem dX4_doers_36 : decode cX4_doers 36 = .ok (.iload_n 3, 1) := by decide +kernel
theorem dX4_doers_37 : decode cX4_doers 37 = .ok (.iload 6, 2) := by decide +kernel
theorem dX4_doers_39 : decode cX4_doers 39 = .ok (.ifCond .eq 10, 3) := by decide +kernel
theorem dX4_doers_42 : decode cX4_doers 42 = .ok (.iconst 1, 1) := by decide +kernel
theorem dX4_doers_43 : decode cX4_doers 43 = .ok (.iload 5, 2) := by decide +kernel
theorem dX4_doers_45 : decode cX4_doers 45 = .ok (.ishl, 1) := by decide +kernel
theorem dX4_doers_46 : decode cX4_doers 46 = .ok (.goto 4, 3) := by decide +kernel
theorem dX4_doers_49 : decode cX4_doers 49 = .ok (.iconst 0, 1) := by decide +kernel
theorem dX4_doers_50 : decode cX4_doers 50 = .ok (.ior, 1) := by decide +kernel
theorem dX4_doers_51 : decode cX4_doers 51 = .ok (.istore_n 3, 1) := by decide +kernel
theorem dX4_doers_52 : decode cX4_doers 52 = .ok (.iload 4, 2) := by decide +kernel
theorem dX4_doers_54 : decode cX4_doers 54 = .ok (.iload 6, 2) := by decide +kernel
theorem dX4_doers_56 : decode cX4_doers 56 = .ok (.ifCond .eq 7, 3) := by decide +kernel
theorem dX4_doers_59 : decode cX4_doers 59 = .ok (.iconst 1, 1) := by decide +kernel
theorem dX4_doers_60 : decode cX4_doers 60 = .ok (.goto 4, 3) := by decide +kernel
theorem dX4_doers_63 : decode cX4_doers 63 = .ok (.iconst 0, 1) := by decide +kernel
theorem dX4_doers_64 : decode cX4_doers 64 = .ok (.iadd, 1) := by decide +kernel
theorem dX4_doers_65 : decode cX4_doers 65 = .ok (.istore 4, 2) := by decide +kernel
theorem dX4_doers_67 : decode cX4_doers 67 = .ok (.iinc 5 1, 3) := by decide +kernel
theorem dX4_doers_70 : decode cX4_doers 70 = .ok (.goto (-62), 3) := by decide +kernel
theorem dX4_doers_73 : decode cX4_doers 73 = .ok (.iload_n 2, 1) := by decide +kernel
theorem dX4_doers_74 : decode cX4_doers 74 = .ok (.ifCond .eq 7, 3) := by decide +kernel
theorem dX4_doers_77 : decode cX4_doers 77 = .ok (.iload_n 3, 1) := by decide +kernel
theorem dX4_doers_78 : decode cX4_doers 78 = .ok (.goto 5, 3) := by decide +kernel
theorem dX4_doers_81 : decode cX4_doers 81 = .ok (.iload 4, 2) := by decide +kernel
theorem dX4_doers_83 : decode cX4_doers 83 = .ok (.ireturn, 1) := by decide +kernel
theorem dX4_now_0 : decode cX4_now 0 = .ok (.iload_n 1, 1) := by decide +kernel
theorem dX4_now_1 : decode cX4_now 1 = .ok (.tableswitch 121 0 6 #[43, 50, 57, 71, 86, 96, 115], 43) := by decide +kernel
theorem dX4_now_44 : decode cX4_now 44 = .ok (.aload_n 0, 1) := by decide +kernel
theorem dX4_now_45 : decode cX4_now 45 = .ok (.getfield 7, 3) := by decide +kernel
theorem dX4_now_48 : decode cX4_now 48 = .ok (.iconst 1, 1) := by decide +kernel
theorem dX4_now_49 : decode cX4_now 49 = .ok (.iaload, 1) := by decide +kernel
theorem dX4_now_50 : decode cX4_now 50 = .ok (.ireturn, 1) := by decide +kernel
theorem dX4_now_51 : decode cX4_now 51 = .ok (.aload_n 0, 1) := by decide +kernel
theorem dX4_now_52 : decode cX4_now 52 = .ok (.getfield 7, 3) := by decide +kernel
theorem dX4_now_55 : decode cX4_now 55 = .ok (.iconst 2, 1) := by decide +kernel
theorem dX4_now_56 : decode cX4_now 56 = .ok (.iaload, 1) := by decide +kernel
theorem dX4_now_57 : decode cX4_now 57 = .ok (.ireturn, 1) := by decide +kernel
theorem dX4_now_58 : decode cX4_now 58 = .ok (.aload_n 0, 1) := by decide +kernel
theorem dX4_now_59 : decode cX4_now 59 = .ok (.getfield 7, 3) := by decide +kernel
theorem dX4_now_62 : decode cX4_now 62 = .ok (.iconst 3, 1) := by decide +kernel
theorem dX4_now_63 : decode cX4_now 63 = .ok (.aload_n 0, 1) := by decide +kernel
theorem dX4_now_64 : decode cX4_now 64 = .ok (.getfield 7, 3) := by decide +kernel
theorem dX4_now_67 : decode cX4_now 67 = .ok (.iconst 2, 1) := by decide +kernel
theorem dX4_now_68 : decode cX4_now 68 = .ok (.iaload, 1) := by decide +kernel
theorem dX4_now_69 : decode cX4_now 69 = .ok (.iadd, 1) := by decide +kernel
theorem dX4_now_70 : decode cX4_now 70 = .ok (.iaload, 1) := by decide +kernel
theorem dX4_now_71 : decode cX4_now 71 = .ok (.ireturn, 1) := by decide +kernel
theorem dX4_now_72 : decode cX4_now 72 = .ok (.aload_n 0, 1) := by decide +kernel
theorem dX4_now_73 : decode cX4_now 73 = .ok (.getfield 7, 3) := by decide +kernel
theorem dX4_now_76 : decode cX4_now 76 = .ok (.bipush 19, 2) := by decide +kernel
theorem dX4_now_78 : decode cX4_now 78 = .ok (.aload_n 0, 1) := by decide +kernel
theorem dX4_now_79 : decode cX4_now 79 = .ok (.getfield 7, 3) := by decide +kernel
theorem dX4_now_82 : decode cX4_now 82 = .ok (.iconst 2, 1) := by decide +kernel
theorem dX4_now_83 : decode cX4_now 83 = .ok (.iaload, 1) := by decide +kernel
theorem dX4_now_84 : decode cX4_now 84 = .ok (.iadd, 1) := by decide +kernel
theorem dX4_now_85 : decode cX4_now 85 = .ok (.iaload, 1) := by decide +kernel
theorem dX4_now_86 : decode cX4_now 86 = .ok (.ireturn, 1) := by decide +kernel
theorem dX4_now_87 : decode cX4_now 87 = .ok (.sipush 10000, 3) := by decide +kernel
theorem dX4_now_90 : decode cX4_now 90 = .ok (.aload_n 0, 1) := by decide +kernel
theorem dX4_now_91 : decode cX4_now 91 = .ok (.iconst 2, 1) := by decide +kernel
theorem dX4_now_92 : decode cX4_now 92 = .ok (.invokevirtual 98, 3) := by decide +kernel
theorem dX4_now_95 : decode cX4_now 95 = .ok (.iadd, 1) := by decide +kernel
theorem dX4_now_96 : decode cX4_now 96 = .ok (.ireturn, 1) := by decide +kernel
theorem dX4_now_97 : decode cX4_now 97 = .ok (.aload_n 0, 1) := by decide +kernel
theorem dX4_now_98 : decode cX4_now 98 = .ok (.aload_n 0, 1) := by decide +kernel
theorem dX4_now_99 : decode cX4_now 99 = .ok (.getfield 7, 3) := by decide +kernel
theorem dX4_now_102 : decode cX4_now 102 = .ok (.iconst 3, 1) := by decide +kernel
theorem dX4_now_103 : decode cX4_now 103 = .ok (.aload_n 0, 1) := by decide +kernel
theorem dX4_now_104 : decode cX4_now 104 = .ok (.getfield 7, 3) := by decide +kernel
theorem dX4_now_107 : decode cX4_now 107 = .ok (.iconst 2, 1) := by decide +kernel
theorem dX4_now_108 : decode cX4_now 108 = .ok (.iaload, 1) := by decide +kernel
theorem dX4_now_109 : decode cX4_now 109 = .ok (.iadd, 1) := by decide +kernel
theorem dX4_now_110 : decode cX4_now 110 = .ok (.iaload, 1) := by decide +kernel
theorem dX4_now_111 : decode cX4_now 111 = .ok (.iconst 1, 1) := by decide +kernel
theorem dX4_now_112 : decode cX4_now 112 = .ok (.invokevirtual 101, 3) := by decide +kernel
theorem dX4_now_115 : decode cX4_now 115 = .ok (.ireturn, 1) := by decide +kernel
theorem dX4_now_116 : decode cX4_now 116 = .ok (.aload_n 0, 1) := by decide +kernel
theorem dX4_now_117 : decode cX4_now 117 = .ok (.iconst 1, 1) := by decide +kernel
theorem dX4_now_118 : decode cX4_now 118 = .ok (.invokevirtual 98, 3) := by decide +kernel
theorem dX4_now_121 : decode cX4_now 121 = .ok (.ireturn, 1) := by decide +kernel
theorem dX4_now_122 : decode cX4_now 122 = .ok (.aload_n 0, 1) := by decide +kernel
theorem dX4_now_123 : decode cX4_now 123 = .ok (.iconst 0, 1) := by decide +kernel
theorem dX4_now_124 : decode cX4_now 124 = .ok (.invokevirtual 92, 3) := by decide +kernel
theorem dX4_now_127 : decode cX4_now 127 = .ok (.ireturn, 1) := by decide +kernel
theorem dX4_comesIn_0 : decode cX4_comesIn 0 = .ok (.aload_n 0, 1) := by decide +kernel
theorem dX4_comesIn_1 : decode cX4_comesIn 1 = .ok (.getfield 7, 3) := by decide +kernel
theorem dX4_comesIn_4 : decode cX4_comesIn 4 = .ok (.iconst 0, 1) := by decide +kernel
theorem dX4_comesIn_5 : decode cX4_comesIn 5 = .ok (.iaload, 1) := by decide +kernel
theorem dX4_comesIn_6 : decode cX4_comesIn 6 = .ok (.istore_n 2, 1) := by decide +kernel
theorem dX4_comesIn_7 : decode cX4_comesIn 7 = .ok (.aload_n 0, 1) := by decide +kernel
theorem dX4_comesIn_8 : decode cX4_comesIn 8 = .ok (.iload_n 2, 1) := by decide +kernel
theorem dX4_comesIn_9 : decode cX4_comesIn 9 = .ok (.iconst 0, 1) := by decide +kernel
theorem dX4_comesIn_10 : decode cX4_comesIn 10 = .ok (.iload_n 1, 1) := by decide +kernel
theorem dX4_comesIn_11 : decode cX4_comesIn 11 = .ok (.invokevirtual 73, 3) := by decide +kernel
theorem dX4_comesIn_14 : decode cX4_comesIn 14 = .ok (.aload_n 0, 1) := by decide +kernel
theorem dX4_comesIn_15 : decode cX4_comesIn 15 = .ok (.iload_n 2, 1) := by decide +kernel
theorem dX4_comesIn_16 : decode cX4_comesIn 16 = .ok (.iconst 1, 1) := by decide +kernel
theorem dX4_comesIn_17 : decode cX4_comesIn 17 = .ok (.bipush 60, 2) := by decide +kernel
theorem dX4_comesIn_19 : decode cX4_comesIn 19 = .ok (.invokevirtual 73, 3) := by decide +kernel
theorem dX4_comesIn_22 : decode cX4_comesIn 22 = .ok (.aload_n 0, 1) := by decide +kernel
theorem dX4_comesIn_23 : decode cX4_comesIn 23 = .ok (.iload_n 2, 1) := by decide +kernel
theorem dX4_comesIn_24 : decode cX4_comesIn 24 = .ok (.iconst 2, 1) := by decide +kernel
theorem dX4_comesIn_25 : decode cX4_comesIn 25 = .ok (.iconst 0, 1) := by decide +kernel
theorem dX4_comesIn_26 : decode cX4_comesIn 26 = .ok (.invokevirtual 73, 3) := by decide +kernel
theorem dX4_comesIn_29 : decode cX4_comesIn 29 = .ok (.aload_n 0, 1) := by decide +kernel
theorem dX4_comesIn_30 : decode cX4_comesIn 30 = .ok (.iload_n 2, 1) := by decide +kernel
theorem dX4_comesIn_31 : decode cX4_comesIn 31 = .ok (.iconst 3, 1) := by decide +kernel
theorem dX4_comesIn_32 : decode cX4_comesIn 32 = .ok (.iconst 0, 1) := by decide +kernel
theorem dX4_comesIn_33 : decode cX4_comesIn 33 = .ok (.invokevirtual 73, 3) := by decide +kernel
theorem dX4_comesIn_36 : decode cX4_comesIn 36 = .ok (.aload_n 0, 1) := by decide +kernel
theorem dX4_comesIn_37 : decode cX4_comesIn 37 = .ok (.getfield 7, 3) := by decide +kernel
theorem dX4_comesIn_40 : decode cX4_comesIn 40 = .ok (.iconst 0, 1) := by decide +kernel
theorem dX4_comesIn_41 : decode cX4_comesIn 41 = .ok (.dup2, 1) := by decide +kernel
theorem dX4_comesIn_42 : decode cX4_comesIn 42 = .ok (.iaload, 1) := by decide +kernel
theorem dX4_comesIn_43 : decode cX4_comesIn 43 = .ok (.iconst 1, 1) := by decide +kernel
theorem dX4_comesIn_44 : decode cX4_comesIn 44 = .ok (.iadd, 1) := by decide +kernel
theorem dX4_comesIn_45 : decode cX4_comesIn 45 = .ok (.iastore, 1) := by decide +kernel
theorem dX4_comesIn_46 : decode cX4_comesIn 46 = .ok (.iload_n 2, 1) := by decide +kernel
theorem dX4_comesIn_47 : decode cX4_comesIn 47 = .ok (.ireturn, 1) := by decide +kernel
theorem dX4_person_0 : decode cX4_person 0 = .ok (.iload_n 1, 1) := by decide +kernel
theorem dX4_person_1 : decode cX4_person 1 = .ok (.i2l, 1) := by decide +kernel
theorem dX4_person_2 : decode cX4_person 2 = .ok (.lconst 0, 1) := by decide +kernel
theorem dX4_person_3 : decode cX4_person 3 = .ok (.ldc2_w 105, 3) := by decide +kernel
theorem dX4_person_6 : decode cX4_person 6 = .ok (.invokestatic 46, 3) := by decide +kernel
theorem dX4_person_9 : decode cX4_person 9 = .ok (.ifCond .ne 9, 3) := by decide +kernel
theorem dX4_person_12 : decode cX4_person 12 = .ok (.aload_n 0, 1) := by decide +kernel
theorem dX4_person_13 : decode cX4_person 13 = .ok (.iconst 0, 1) := by decide +kernel
theorem dX4_person_14 : decode cX4_person 14 = .ok (.invokevirtual 92, 3) := by decide +kernel
theorem dX4_person_17 : decode cX4_person 17 = .ok (.ireturn, 1) := by decide +kernel
theorem dX4_person_18 : decode cX4_person 18 = .ok (.aload_n 0, 1) := by decide +kernel
theorem dX4_person_19 : decode cX4_person 19 = .ok (.getfield 7, 3) := by decide +kernel
theorem dX4_person_22 : decode cX4_person 22 = .ok (.iconst 0, 1) := by decide +kernel
theorem dX4_person_23 : decode cX4_person 23 = .ok (.iaload, 1) := by decide +kernel
theorem dX4_person_24 : decode cX4_person 24 = .ok (.bipush 8, 2) := by decide +kernel
theorem dX4_person_26 : decode cX4_person 26 = .ok (.if_icmp .ne 11, 3) := by decide +kernel
theorem dX4_person_29 : decode cX4_person 29 = .ok (.aload_n 0, 1) := by decide +kernel
theorem dX4_person_30 : decode cX4_person 30 = .ok (.iconst 1, 1) := by decide +kernel
theorem dX4_person_31 : decode cX4_person 31 = .ok (.invokevirtual 92, 3) := by decide +kernel
theorem dX4_person_34 : decode cX4_person 34 = .ok (.goto 8, 3) := by decide +kernel
theorem dX4_person_37 : decode cX4_person 37 = .ok (.aload_n 0, 1) := by decide +kernel
theorem dX4_person_38 : decode cX4_person 38 = .ok (.iload_n 1, 1) := by decide +kernel
theorem dX4_person_39 : decode cX4_person 39 = .ok (.invokevirtual 107, 3) := by decide +kernel
theorem dX4_person_42 : decode cX4_person 42 = .ok (.ireturn, 1) := by decide +kernel
theorem dX4_of_0 : decode cX4_of 0 = .ok (.aload_n 0, 1) := by decide +kernel
theorem dX4_of_1 : decode cX4_of 1 = .ok (.iload_n 1, 1) := by decide +kernel
theorem dX4_of_2 : decode cX4_of 2 = .ok (.invokevirtual 50, 3) := by decide +kernel
theorem dX4_of_5 : decode cX4_of 5 = .ok (.ifCond .eq 15, 3) := by decide +kernel
theorem dX4_of_8 : decode cX4_of 8 = .ok (.iload_n 2, 1) := by decide +kernel
theorem dX4_of_9 : decode cX4_of 9 = .ok (.i2l, 1) := by decide +kernel
theorem dX4_of_10 : decode cX4_of 10 = .ok (.lconst 0, 1) := by decide +kernel
theorem dX4_of_11 : decode cX4_of 11 = .ok (.ldc2_w 105, 3) := by decide +kernel
theorem dX4_of_14 : decode cX4_of 14 = .ok (.invokestatic 46, 3) := by decide +kernel
theorem dX4_of_17 : decode cX4_of 17 = .ok (.ifCond .ne 9, 3) := by decide +kernel
theorem dX4_of_20 : decode cX4_of 20 = .ok (.aload_n 0, 1) := by decide +kernel
theorem dX4_of_21 : decode cX4_of 21 = .ok (.iconst 0, 1) := by decide +kernel
theorem dX4_of_22 : decode cX4_of 22 = .ok (.invokevirtual 92, 3) := by decide +kernel
theorem dX4_of_25 : decode cX4_of 25 = .ok (.ireturn, 1) := by decide +kernel
theorem dX4_of_26 : decode cX4_of 26 = .ok (.iload_n 2, 1) := by decide +kernel
theorem dX4_of_27 : decode cX4_of 27 = .ok (.tableswitch 55 2 5 #[29, 55, 40, 46], 29) := by decide +kernel
theorem dX4_of_56 : decode cX4_of 56 = .ok (.sipush 10000, 3) := by decide +kernel
theorem dX4_of_59 : decode cX4_of 59 = .ok (.aload_n 0, 1) := by decide +kernel
theorem dX4_of_60 : decode cX4_of 60 = .ok (.iload_n 1, 1) := by decide +kernel
theorem dX4_of_61 : decode cX4_of 61 = .ok (.iconst 2, 1) := by decide +kernel
theorem dX4_of_62 : decode cX4_of 62 = .ok (.invokevirtual 54, 3) := by decide +kernel
theorem dX4_of_65 : decode cX4_of 65 = .ok (.iadd, 1) := by decide +kernel
theorem dX4_of_66 : decode cX4_of 66 = .ok (.ireturn, 1) := by decide +kernel
theorem dX4_of_67 : decode cX4_of 67 = .ok (.aload_n 0, 1) := by decide +kernel
theorem dX4_of_68 : decode cX4_of 68 = .ok (.iload_n 1, 1) := by decide +kernel
theorem dX4_of_69 : decode cX4_of 69 = .ok (.invokevirtual 66, 3) := by decide +kernel
theorem dX4_of_72 : decode cX4_of 72 = .ok (.ireturn, 1) := by decide +kernel
theorem dX4_of_73 : decode cX4_of 73 = .ok (.bipush 100, 2) := by decide +kernel
theorem dX4_of_75 : decode cX4_of 75 = .ok (.aload_n 0, 1) := by decide +kernel
theorem dX4_of_76 : decode cX4_of 76 = .ok (.iload_n 1, 1) := by decide +kernel
theorem dX4_of_77 : decode cX4_of 77 = .ok (.invokevirtual 77, 3) := by decide +kernel
theorem dX4_of_80 : decode cX4_of 80 = .ok (.iadd, 1) := by decide +kernel
theorem dX4_of_81 : decode cX4_of 81 = .ok (.ireturn, 1) := by decide +kernel
theorem dX4_of_82 : decode cX4_of 82 = .ok (.aload_n 0, 1) := by decide +kernel
theorem dX4_of_83 : decode cX4_of 83 = .ok (.iload_n 1, 1) := by decide +kernel
theorem dX4_of_84 : decode cX4_of 84 = .ok (.iload_n 2, 1) := by decide +kernel
theorem dX4_of_85 : decode cX4_of 85 = .ok (.invokevirtual 54, 3) := by decide +kernel
theorem dX4_of_88 : decode cX4_of 88 = .ok (.ireturn, 1) := by decide +kernel
theorem dX4_scores_0 : decode cX4_scores 0 = .ok (.aload_n 0, 1) := by decide +kernel
theorem dX4_scores_1 : decode cX4_scores 1 = .ok (.iload_n 1, 1) := by decide +kernel
theorem dX4_scores_2 : decode cX4_scores 2 = .ok (.invokevirtual 50, 3) := by decide +kernel
theorem dX4_scores_5 : decode cX4_scores 5 = .ok (.ifCond .eq 30, 3) := by decide +kernel
theorem dX4_scores_8 : decode cX4_scores 8 = .ok (.iload_n 2, 1) := by decide +kernel
theorem dX4_scores_9 : decode cX4_scores 9 = .ok (.invokestatic 110, 3) := by decide +kernel
theorem dX4_scores_12 : decode cX4_scores 12 = .ok (.ifCond .eq 23, 3) := by decide +kernel
theorem dX4_scores_15 : decode cX4_scores 15 = .ok (.iload_n 3, 1) := by decide +kernel
theorem dX4_scores_16 : decode cX4_scores 16 = .ok (.invokestatic 110, 3) := by decide +kernel
theorem dX4_scores_19 : decode cX4_scores 19 = .ok (.ifCond .eq 16, 3) := by decide +kernel
theorem dX4_scores_22 : decode cX4_scores 22 = .ok (.bipush 100, 2) := by decide +kernel
theorem dX4_scores_24 : decode cX4_scores 24 = .ok (.aload_n 0, 1) := by decide +kernel
theorem dX4_scores_25 : decode cX4_scores 25 = .ok (.iload_n 1, 1) := by decide +kernel
theorem dX4_scores_26 : decode cX4_scores 26 = .ok (.iload_n 2, 1) := by decide +kernel
theorem dX4_scores_27 : decode cX4_scores 27 = .ok (.iload_n 3, 1) := by decide +kernel
theorem dX4_scores_28 : decode cX4_scores 28 = .ok (.invokevirtual 70, 3) := by decide +kernel
theorem dX4_scores_31 : decode cX4_scores 31 = .ok (.iadd, 1) := by decide +kernel
theorem dX4_scores_32 : decode cX4_scores 32 = .ok (.goto 8, 3) := by decide +kernel
theorem dX4_scores_35 : decode cX4_scores 35 = .ok (.aload_n 0, 1) := by decide +kernel
theorem dX4_scores_36 : decode cX4_scores 36 = .ok (.iconst 0, 1) := by decide +kernel
theorem dX4_scores_37 : decode cX4_scores 37 = .ok (.invokevirtual 92, 3) := by decide +kernel
theorem dX4_scores_40 : decode cX4_scores 40 = .ok (.ireturn, 1) := by decide +kernel
theorem dX4_set_0 : decode cX4_set 0 = .ok (.iload_n 2, 1) := by decide +kernel
theorem dX4_set_1 : decode cX4_set 1 = .ok (.iconst 1, 1) := by decide +kernel
theorem dX4_set_2 : decode cX4_set 2 = .ok (.if_icmp .ne 15, 3) := by decide +kernel
theorem dX4_set_5 : decode cX4_set 5 = .ok (.iload_n 3, 1) := by decide +kernel
theorem dX4_set_6 : decode cX4_set 6 = .ok (.i2l, 1) := by decide +kernel
theorem dX4_set_7 : decode cX4_set 7 = .ok (.lconst 0, 1) := by decide +kernel
theorem dX4_set_8 : decode cX4_set 8 = .ok (.ldc2_w 113, 3) := by decide +kernel
theorem dX4_set_11 : decode cX4_set 11 = .ok (.invokestatic 46, 3) := by decide +kernel
theorem dX4_set_14 : decode cX4_set 14 = .ok (.goto 39, 3) := by decide +kernel
theorem dX4_set_17 : decode cX4_set 17 = .ok (.iload_n 2, 1) := by decide +kernel
theorem dX4_set_18 : decode cX4_set 18 = .ok (.iconst 2, 1) := by decide +kernel
theorem dX4_set_19 : decode cX4_set 19 = .ok (.if_icmp .ne 17, 3) := by decide +kernel
theorem dX4_set_22 : decode cX4_set 22 = .ok (.iload_n 3, 1) := by decide +kernel
theorem dX4_set_23 : decode cX4_set 23 = .ok (.i2l, 1) := by decide +kernel
theorem dX4_set_24 : decode cX4_set 24 = .ok (.ldc2_w 115, 3) := by decide +kernel
theorem dX4_set_27 : decode cX4_set 27 = .ok (.ldc2_w 117, 3) := by decide +kernel
theorem dX4_set_30 : decode cX4_set 30 = .ok (.invokestatic 46, 3) := by decide +kernel
theorem dX4_set_33 : decode cX4_set 33 = .ok (.goto 20, 3) := by decide +kernel
theorem dX4_set_36 : decode cX4_set 36 = .ok (.iload_n 2, 1) := by decide +kernel
theorem dX4_set_37 : decode cX4_set 37 = .ok (.iconst 3, 1) := by decide +kernel
theorem dX4_set_38 : decode cX4_set 38 = .ok (.if_icmp .ne 14, 3) := by decide +kernel
theorem dX4_set_41 : decode cX4_set 41 = .ok (.iload_n 3, 1) := by decide +kernel
theorem dX4_set_42 : decode cX4_set 42 = .ok (.invokestatic 110, 3) := by decide +kernel
theorem dX4_set_45 : decode cX4_set 45 = .ok (.ifCond .eq 7, 3) := by decide +kernel
theorem dX4_set_48 : decode cX4_set 48 = .ok (.iconst 1, 1) := by decide +kernel
theorem dX4_set_49 : decode cX4_set 49 = .ok (.goto 4, 3) := by decide +kernel
theorem dX4_set_52 : decode cX4_set 52 = .ok (.iconst 0, 1) := by decide +kernel
theorem dX4_set_53 : decode cX4_set 53 = .ok (.istore 4, 2) := by decide +kernel
theorem dX4_set_55 : decode cX4_set 55 = .ok (.aload_n 0, 1) := by decide +kernel
theorem dX4_set_56 : decode cX4_set 56 = .ok (.iload_n 1, 1) := by decide +kernel
theorem dX4_set_57 : decode cX4_set 57 = .ok (.invokevirtual 50, 3) := by decide +kernel
theorem dX4_set_60 : decode cX4_set 60 = .ok (.ifCond .eq 24, 3) := by decide +kernel
theorem dX4_set_63 : decode cX4_set 63 = .ok (.iload 4, 2) := by decide +kernel
theorem dX4_set_65 : decode cX4_set 65 = .ok (.ifCond .eq 19, 3) := by decide +kernel
theorem dX4_set_68 : decode cX4_set 68 = .ok (.aload_n 0, 1) := by decide +kernel
theorem dX4_set_69 : decode cX4_set 69 = .ok (.bipush 35, 2) := by decide +kernel
theorem dX4_set_71 : decode cX4_set 71 = .ok (.iconst 4, 1) := by decide +kernel
theorem dX4_set_72 : decode cX4_set 72 = .ok (.iload_n 1, 1) := by decide +kernel
theorem dX4_set_73 : decode cX4_set 73 = .ok (.imul, 1) := by decide +kernel
theorem dX4_set_74 : decode cX4_set 74 = .ok (.iadd, 1) := by decide +kernel
theorem dX4_set_75 : decode cX4_set 75 = .ok (.iload_n 2, 1) := by decide +kernel
theorem dX4_set_76 : decode cX4_set 76 = .ok (.iadd, 1) := by decide +kernel
theorem dX4_set_77 : decode cX4_set 77 = .ok (.iload_n 3, 1) := by decide +kernel
theorem dX4_set_78 : decode cX4_set 78 = .ok (.invokevirtual 95, 3) := by decide +kernel
theorem dX4_set_81 : decode cX4_set 81 = .ok (.goto 8, 3) := by decide +kernel
theorem dX4_set_84 : decode cX4_set 84 = .ok (.aload_n 0, 1) := by decide +kernel
theorem dX4_set_85 : decode cX4_set 85 = .ok (.iconst 0, 1) := by decide +kernel
theorem dX4_set_86 : decode cX4_set 86 = .ok (.invokevirtual 92, 3) := by decide +kernel
theorem dX4_set_89 : decode cX4_set 89 = .ok (.ireturn, 1) := by decide +kernel
theorem dX4_turn_0 : decode cX4_turn 0 = .ok (.aload_n 0, 1) := by decide +kernel
theorem dX4_turn_1 : decode cX4_turn 1 = .ok (.iload_n 1, 1) := by decide +kernel
theorem dX4_turn_2 : decode cX4_turn 2 = .ok (.invokevirtual 50, 3) := by decide +kernel
theorem dX4_turn_5 : decode cX4_turn 5 = .ok (.ifCond .eq 29, 3) := by decide +kernel
theorem dX4_turn_8 : decode cX4_turn 8 = .ok (.iload_n 2, 1) := by decide +kernel
theorem dX4_turn_9 : decode cX4_turn 9 = .ok (.i2l, 1) := by decide +kernel
theorem dX4_turn_10 : decode cX4_turn 10 = .ok (.lconst 0, 1) := by decide +kernel
theorem dX4_turn_11 : decode cX4_turn 11 = .ok (.ldc2_w 105, 3) := by decide +kernel
theorem dX4_turn_14 : decode cX4_turn 14 = .ok (.invokestatic 46, 3) := by decide +kernel
theorem dX4_turn_17 : decode cX4_turn 17 = .ok (.ifCond .eq 17, 3) := by decide +kernel
theorem dX4_turn_20 : decode cX4_turn 20 = .ok (.aload_n 0, 1) := by decide +kernel
theorem dX4_turn_21 : decode cX4_turn 21 = .ok (.bipush 35, 2) := by decide +kernel
theorem dX4_turn_23 : decode cX4_turn 23 = .ok (.iconst 4, 1) := by decide +kernel
theorem dX4_turn_24 : decode cX4_turn 24 = .ok (.iload_n 1, 1) := by decide +kernel
theorem dX4_turn_25 : decode cX4_turn 25 = .ok (.imul, 1) := by decide +kernel
theorem dX4_turn_26 : decode cX4_turn 26 = .ok (.iadd, 1) := by decide +kernel
theorem dX4_turn_27 : decode cX4_turn 27 = .ok (.iload_n 2, 1) := by decide +kernel
theorem dX4_turn_28 : decode cX4_turn 28 = .ok (.invokevirtual 95, 3) := by decide +kernel
theorem dX4_turn_31 : decode cX4_turn 31 = .ok (.goto 8, 3) := by decide +kernel
theorem dX4_turn_34 : decode cX4_turn 34 = .ok (.aload_n 0, 1) := by decide +kernel
theorem dX4_turn_35 : decode cX4_turn 35 = .ok (.iconst 0, 1) := by decide +kernel
theorem dX4_turn_36 : decode cX4_turn 36 = .ok (.invokevirtual 92, 3) := by decide +kernel
theorem dX4_turn_39 : decode cX4_turn 39 = .ok (.ireturn, 1) := by decide +kernel
theorem dX4_as_0 : decode cX4_as 0 = .ok (.aload_n 0, 1) := by decide +kernel
theorem dX4_as_1 : decode cX4_as 1 = .ok (.iload_n 1, 1) := by decide +kernel
theorem dX4_as_2 : decode cX4_as 2 = .ok (.invokevirtual 50, 3) := by decide +kernel
theorem dX4_as_5 : decode cX4_as 5 = .ok (.ifCond .eq 15, 3) := by decide +kernel
theorem dX4_as_8 : decode cX4_as 8 = .ok (.iload_n 2, 1) := by decide +kernel
theorem dX4_as_9 : decode cX4_as 9 = .ok (.i2l, 1) := by decide +kernel
theorem dX4_as_10 : decode cX4_as 10 = .ok (.lconst 0, 1) := by decide +kernel
theorem dX4_as_11 : decode cX4_as 11 = .ok (.ldc2_w 105, 3) := by decide +kernel
theorem dX4_as_14 : decode cX4_as 14 = .ok (.invokestatic 46, 3) := by decide +kernel
theorem dX4_as_17 : decode cX4_as 17 = .ok (.ifCond .ne 9, 3) := by decide +kernel
theorem dX4_as_20 : decode cX4_as 20 = .ok (.aload_n 0, 1) := by decide +kernel
theorem dX4_as_21 : decode cX4_as 21 = .ok (.iconst 0, 1) := by decide +kernel
theorem dX4_as_22 : decode cX4_as 22 = .ok (.invokevirtual 92, 3) := by decide +kernel
theorem dX4_as_25 : decode cX4_as 25 = .ok (.ireturn, 1) := by decide +kernel
theorem dX4_as_26 : decode cX4_as 26 = .ok (.aload_n 0, 1) := by decide +kernel
theorem dX4_as_27 : decode cX4_as 27 = .ok (.iload_n 1, 1) := by decide +kernel
theorem dX4_as_28 : decode cX4_as 28 = .ok (.iconst 0, 1) := by decide +kernel
theorem dX4_as_29 : decode cX4_as 29 = .ok (.invokevirtual 54, 3) := by decide +kernel
theorem dX4_as_32 : decode cX4_as 32 = .ok (.istore_n 3, 1) := by decide +kernel
theorem dX4_as_33 : decode cX4_as 33 = .ok (.iload_n 2, 1) := by decide +kernel
theorem dX4_as_34 : decode cX4_as 34 = .ok (.ifCond .eq 20, 3) := by decide +kernel
theorem dX4_as_37 : decode cX4_as 37 = .ok (.iload_n 3, 1) := by decide +kernel
theorem dX4_as_38 : decode cX4_as 38 = .ok (.iload_n 2, 1) := by decide +kernel
theorem dX4_as_39 : decode cX4_as 39 = .ok (.if_icmp .eq 15, 3) := by decide +kernel
theorem dX4_as_42 : decode cX4_as 42 = .ok (.iload_n 3, 1) := by decide +kernel
theorem dX4_as_43 : decode cX4_as 43 = .ok (.iload_n 2, 1) := by decide +kernel
theorem dX4_as_44 : decode cX4_as 44 = .ok (.iconst 3, 1) := by decide +kernel
theorem dX4_as_45 : decode cX4_as 45 = .ok (.iadd, 1) := by decide +kernel
theorem dX4_as_46 : decode cX4_as 46 = .ok (.if_icmp .ne 17, 3) := by decide +kernel
theorem dX4_as_49 : decode cX4_as 49 = .ok (.iload_n 2, 1) := by decide +kernel
theorem dX4_as_50 : decode cX4_as 50 = .ok (.iconst 3, 1) := by decide +kernel
theorem dX4_as_51 : decode cX4_as 51 = .ok (.if_icmp .ge 12, 3) := by decide +kernel
theorem dX4_as_54 : decode cX4_as 54 = .ok (.aload_n 0, 1) := by decide +kernel
theorem dX4_as_55 : decode cX4_as 55 = .ok (.iload_n 1, 1) := by decide +kernel
theorem dX4_as_56 : decode cX4_as 56 = .ok (.iconst 1, 1) := by decide +kernel
theorem dX4_as_57 : decode cX4_as 57 = .ok (.invokevirtual 54, 3) := by decide +kernel
theorem dX4_as_60 : decode cX4_as 60 = .ok (.goto 8, 3) := by decide +kernel
theorem dX4_as_63 : decode cX4_as 63 = .ok (.aload_n 0, 1) := by decide +kernel
theorem dX4_as_64 : decode cX4_as 64 = .ok (.iconst 2, 1) := by decide +kernel
theorem dX4_as_65 : decode cX4_as 65 = .ok (.invokevirtual 92, 3) := by decide +kernel
theorem dX4_as_68 : decode cX4_as 68 = .ok (.ireturn, 1) := by decide +kernel
theorem dX4_swaps_0 : decode cX4_swaps 0 = .ok (.iconst 0, 1) := by decide +kernel
theorem dX4_swaps_1 : decode cX4_swaps 1 = .ok (.istore_n 3, 1) := by decide +kernel
theorem dX4_swaps_2 : decode cX4_swaps 2 = .ok (.iload_n 3, 1) := by decide +kernel
theorem dX4_swaps_3 : decode cX4_swaps 3 = .ok (.iconst 4, 1) := by decide +kernel
theorem dX4_swaps_4 : decode cX4_swaps 4 = .ok (.if_icmp .ge 37, 3) := by decide +kernel
theorem dX4_swaps_7 : decode cX4_swaps 7 = .ok (.aload_n 0, 1) := by decide +kernel
theorem dX4_swaps_8 : decode cX4_swaps 8 = .ok (.iload_n 1, 1) := by decide +kernel
theorem dX4_swaps_9 : decode cX4_swaps 9 = .ok (.iload_n 3, 1) := by decide +kernel
theorem dX4_swaps_10 : decode cX4_swaps 10 = .ok (.invokevirtual 54, 3) := by decide +kernel
theorem dX4_swaps_13 : decode cX4_swaps 13 = .ok (.istore 4, 2) := by decide +kernel
theorem dX4_swaps_15 : decode cX4_swaps 15 = .ok (.aload_n 0, 1) := by decide +kernel
theorem dX4_swaps_16 : decode cX4_swaps 16 = .ok (.iload_n 1, 1) := by decide +kernel
theorem dX4_swaps_17 : decode cX4_swaps 17 = .ok (.iload_n 3, 1) := by decide +kernel
theorem dX4_swaps_18 : decode cX4_swaps 18 = .ok (.aload_n 0, 1) := by decide +kernel
theorem dX4_swaps_19 : decode cX4_swaps 19 = .ok (.iload_n 2, 1) := by decide +kernel
theorem dX4_swaps_20 : decode cX4_swaps 20 = .ok (.iload_n 3, 1) := by decide +kernel
theorem dX4_swaps_21 : decode cX4_swaps 21 = .ok (.invokevirtual 54, 3) := by decide +kernel
theorem dX4_swaps_24 : decode cX4_swaps 24 = .ok (.invokevirtual 73, 3) := by decide +kernel
theorem dX4_swaps_27 : decode cX4_swaps 27 = .ok (.aload_n 0, 1) := by decide +kernel
theorem dX4_swaps_28 : decode cX4_swaps 28 = .ok (.iload_n 2, 1) := by decide +kernel
theorem dX4_swaps_29 : decode cX4_swaps 29 = .ok (.iload_n 3, 1) := by decide +kernel
theorem dX4_swaps_30 : decode cX4_swaps 30 = .ok (.iload 4, 2) := by decide +kernel
theorem dX4_swaps_32 : decode cX4_swaps 32 = .ok (.invokevirtual 73, 3) := by decide +kernel
theorem dX4_swaps_35 : decode cX4_swaps 35 = .ok (.iinc 3 1, 3) := by decide +kernel
theorem dX4_swaps_38 : decode cX4_swaps 38 = .ok (.goto (-36), 3) := by decide +kernel
theorem dX4_swaps_41 : decode cX4_swaps 41 = .ok (.return_, 1) := by decide +kernel
theorem dX4_swap_0 : decode cX4_swap 0 = .ok (.aload_n 0, 1) := by decide +kernel
theorem dX4_swap_1 : decode cX4_swap 1 = .ok (.iload_n 1, 1) := by decide +kernel
theorem dX4_swap_2 : decode cX4_swap 2 = .ok (.invokevirtual 50, 3) := by decide +kernel
theorem dX4_swap_5 : decode cX4_swap 5 = .ok (.ifCond .eq 16, 3) := by decide +kernel
theorem dX4_swap_8 : decode cX4_swap 8 = .ok (.aload_n 0, 1) := by decide +kernel
theorem dX4_swap_9 : decode cX4_swap 9 = .ok (.iload_n 2, 1) := by decide +kernel
theorem dX4_swap_10 : decode cX4_swap 10 = .ok (.invokevirtual 50, 3) := by decide +kernel
theorem dX4_swap_13 : decode cX4_swap 13 = .ok (.ifCond .eq 8, 3) := by decide +kernel
theorem dX4_swap_16 : decode cX4_swap 16 = .ok (.iload_n 1, 1) := by decide +kernel
theorem dX4_swap_17 : decode cX4_swap 17 = .ok (.iload_n 2, 1) := by decide +kernel
theorem dX4_swap_18 : decode cX4_swap 18 = .ok (.if_icmp .ne 9, 3) := by decide +kernel
theorem dX4_swap_21 : decode cX4_swap 21 = .ok (.aload_n 0, 1) := by decide +kernel
theorem dX4_swap_22 : decode cX4_swap 22 = .ok (.iconst 0, 1) := by decide +kernel
theorem dX4_swap_23 : decode cX4_swap 23 = .ok (.invokevirtual 92, 3) := by decide +kernel
theorem dX4_swap_26 : decode cX4_swap 26 = .ok (.ireturn, 1) := by decide +kernel
theorem dX4_swap_27 : decode cX4_swap 27 = .ok (.aload_n 0, 1) := by decide +kernel
theorem dX4_swap_28 : decode cX4_swap 28 = .ok (.iload_n 1, 1) := by decide +kernel
theorem dX4_swap_29 : decode cX4_swap 29 = .ok (.iload_n 2, 1) := by decide +kernel
theorem dX4_swap_30 : decode cX4_swap 30 = .ok (.invokevirtual 119, 3) := by decide +kernel
theorem dX4_swap_33 : decode cX4_swap 33 = .ok (.iconst 1, 1) := by decide +kernel
theorem dX4_swap_34 : decode cX4_swap 34 = .ok (.ireturn, 1) := by decide +kernel
theorem dX4_moments_0 : decode cX4_moments 0 = .ok (.iload_n 1, 1) := by decide +kernel
theorem dX4_moments_1 : decode cX4_moments 1 = .ok (.i2l, 1) := by decide +kernel
theorem dX4_moments_2 : decode cX4_moments 2 = .ok (.lconst 1, 1) := by decide +kernel
theorem dX4_moments_3 : decode cX4_moments 3 = .ok (.ldc2_w 123, 3) := by decide +kernel
theorem dX4_moments_6 : decode cX4_moments 6 = .ok (.invokestatic 46, 3) := by decide +kernel
theorem dX4_moments_9 : decode cX4_moments 9 = .ok (.ifCond .ne 9, 3) := by decide +kernel
theorem dX4_moments_12 : decode cX4_moments 12 = .ok (.aload_n 0, 1) := by decide +kernel
theorem dX4_moments_13 : decode cX4_moments 13 = .ok (.iconst 0, 1) := by decide +kernel
theorem dX4_moments_14 : decode cX4_moments 14 = .ok (.invokevirtual 92, 3) := by decide +kernel
theorem dX4_moments_17 : decode cX4_moments 17 = .ok (.ireturn, 1) := by decide +kernel
theorem dX4_moments_18 : decode cX4_moments 18 = .ok (.aload_n 0, 1) := by decide +kernel
theorem dX4_moments_19 : decode cX4_moments 19 = .ok (.getfield 7, 3) := by decide +kernel
theorem dX4_moments_22 : decode cX4_moments 22 = .ok (.iconst 1, 1) := by decide +kernel
theorem dX4_moments_23 : decode cX4_moments 23 = .ok (.iaload, 1) := by decide +kernel
theorem dX4_moments_24 : decode cX4_moments 24 = .ok (.aload_n 0, 1) := by decide +kernel
theorem dX4_moments_25 : decode cX4_moments 25 = .ok (.getfield 7, 3) := by decide +kernel
theorem dX4_moments_28 : decode cX4_moments 28 = .ok (.iconst 2, 1) := by decide +kernel
theorem dX4_moments_29 : decode cX4_moments 29 = .ok (.iaload, 1) := by decide +kernel
theorem dX4_moments_30 : decode cX4_moments 30 = .ok (.iload_n 1, 1) := by decide +kernel
theorem dX4_moments_31 : decode cX4_moments 31 = .ok (.iadd, 1) := by decide +kernel
theorem dX4_moments_32 : decode cX4_moments 32 = .ok (.bipush 16, 2) := by decide +kernel
theorem dX4_moments_34 : decode cX4_moments 34 = .ok (.idiv, 1) := by decide +kernel
theorem dX4_moments_35 : decode cX4_moments 35 = .ok (.iadd, 1) := by decide +kernel
theorem dX4_moments_36 : decode cX4_moments 36 = .ok (.sipush 9999, 3) := by decide +kernel
theorem dX4_moments_39 : decode cX4_moments 39 = .ok (.if_icmp .le 9, 3) := by decide +kernel
theorem dX4_moments_42 : decode cX4_moments 42 = .ok (.aload_n 0, 1) := by decide +kernel
theorem dX4_moments_43 : decode cX4_moments 43 = .ok (.iconst 4, 1) := by decide +kernel
theorem dX4_moments_44 : decode cX4_moments 44 = .ok (.invokevirtual 92, 3) := by decide +kernel
theorem dX4_moments_47 : decode cX4_moments 47 = .ok (.ireturn, 1) := by decide +kernel
theorem dX4_moments_48 : decode cX4_moments 48 = .ok (.aload_n 0, 1) := by decide +kernel
theorem dX4_moments_49 : decode cX4_moments 49 = .ok (.iload_n 1, 1) := by decide +kernel
theorem dX4_moments_50 : decode cX4_moments 50 = .ok (.invokevirtual 125, 3) := by decide +kernel
theorem dX4_moments_53 : decode cX4_moments 53 = .ok (.aload_n 0, 1) := by decide +kernel
theorem dX4_moments_54 : decode cX4_moments 54 = .ok (.getfield 7, 3) := by decide +kernel
theorem dX4_moments_57 : decode cX4_moments 57 = .ok (.iconst 2, 1) := by decide +kernel
theorem dX4_moments_58 : decode cX4_moments 58 = .ok (.iaload, 1) := by decide +kernel
theorem dX4_moments_59 : decode cX4_moments 59 = .ok (.ireturn, 1) := by decide +kernel
theorem dX4_behind_0 : decode cX4_behind 0 = .ok (.aload_n 0, 1) := by decide +kernel
theorem dX4_behind_1 : decode cX4_behind 1 = .ok (.iload_n 1, 1) := by decide +kernel
theorem dX4_behind_2 : decode cX4_behind 2 = .ok (.invokevirtual 125, 3) := by decide +kernel
theorem dX4_behind_5 : decode cX4_behind 5 = .ok (.aload_n 0, 1) := by decide +kernel
theorem dX4_behind_6 : decode cX4_behind 6 = .ok (.getfield 7, 3) := by decide +kernel
theorem dX4_behind_9 : decode cX4_behind 9 = .ok (.iload_n 2, 1) := by decide +kernel
theorem dX4_behind_10 : decode cX4_behind 10 = .ok (.iaload, 1) := by decide +kernel
theorem dX4_behind_11 : decode cX4_behind 11 = .ok (.istore_n 3, 1) := by decide +kernel
theorem dX4_behind_12 : decode cX4_behind 12 = .ok (.aload_n 0, 1) := by decide +kernel
theorem dX4_behind_13 : decode cX4_behind 13 = .ok (.getfield 16, 3) := by decide +kernel
theorem dX4_behind_16 : decode cX4_behind 16 = .ok (.aload_n 0, 1) := by decide +kernel
theorem dX4_behind_17 : decode cX4_behind 17 = .ok (.getfield 7, 3) := by decide +kernel
theorem dX4_behind_20 : decode cX4_behind 20 = .ok (.invokestatic 129, 3) := by decide +kernel
theorem dX4_behind_23 : decode cX4_behind 23 = .ok (.iload_n 3, 1) := by decide +kernel
theorem dX4_behind_24 : decode cX4_behind 24 = .ok (.ireturn, 1) := by decide +kernel
theorem dX4_houseBehind_0 : decode cX4_houseBehind 0 = .ok (.aload_n 0, 1) := by decide +kernel
theorem dX4_houseBehind_1 : decode cX4_houseBehind 1 = .ok (.iload_n 1, 1) := by decide +kernel
theorem dX4_houseBehind_2 : decode cX4_houseBehind 2 = .ok (.invokevirtual 125, 3) := by decide +kernel
theorem dX4_houseBehind_5 : decode cX4_houseBehind 5 = .ok (.aload_n 0, 1) := by decide +kernel
theorem dX4_houseBehind_6 : decode cX4_houseBehind 6 = .ok (.iconst 2, 1) := by decide +kernel
theorem dX4_houseBehind_7 : decode cX4_houseBehind 7 = .ok (.invokevirtual 98, 3) := by decide +kernel
theorem dX4_houseBehind_10 : decode cX4_houseBehind 10 = .ok (.istore_n 2, 1) := by decide +kernel
theorem dX4_houseBehind_11 : decode cX4_houseBehind 11 = .ok (.aload_n 0, 1) := by decide +kernel
theorem dX4_houseBehind_12 : decode cX4_houseBehind 12 = .ok (.getfield 16, 3) := by decide +kernel
theorem dX4_houseBehind_15 : decode cX4_houseBehind 15 = .ok (.aload_n 0, 1) := by decide +kernel
theorem dX4_houseBehind_16 : decode cX4_houseBehind 16 = .ok (.getfield 7, 3) := by decide +kernel
theorem dX4_houseBehind_19 : decode cX4_houseBehind 19 = .ok (.invokestatic 129, 3) := by decide +kernel
theorem dX4_houseBehind_22 : decode cX4_houseBehind 22 = .ok (.iload_n 2, 1) := by decide +kernel
theorem dX4_houseBehind_23 : decode cX4_houseBehind 23 = .ok (.ireturn, 1) := by decide +kernel
theorem dX4_isAhead_0 : decode cX4_isAhead 0 = .ok (.iload_n 0, 1) := by decide +kernel
theorem dX4_isAhead_1 : decode cX4_isAhead 1 = .ok (.i2l, 1) := by decide +kernel
theorem dX4_isAhead_2 : decode cX4_isAhead 2 = .ok (.lconst 0, 1) := by decide +kernel
theorem dX4_isAhead_3 : decode cX4_isAhead 3 = .ok (.ldc2_w 133, 3) := by decide +kernel
theorem dX4_isAhead_6 : decode cX4_isAhead 6 = .ok (.invokestatic 46, 3) := by decide +kernel
theorem dX4_isAhead_9 : decode cX4_isAhead 9 = .ok (.ireturn, 1) := by decide +kernel
theorem dX4_isShort_0 : decode cX4_isShort 0 = .ok (.iload_n 0, 1) := by decide +kernel
theorem dX4_isShort_1 : decode cX4_isShort 1 = .ok (.i2l, 1) := by decide +kernel
theorem dX4_isShort_2 : decode cX4_isShort 2 = .ok (.lconst 1, 1) := by decide +kernel
theorem dX4_isShort_3 : decode cX4_isShort 3 = .ok (.ldc2_w 135, 3) := by decide +kernel
theorem dX4_isShort_6 : decode cX4_isShort 6 = .ok (.invokestatic 46, 3) := by decide +kernel
theorem dX4_isShort_9 : decode cX4_isShort 9 = .ok (.ireturn, 1) := by decide +kernel
theorem dX4_whereNote_0 : decode cX4_whereNote 0 = .ok (.bipush 35, 2) := by decide +kernel
theorem dX4_whereNote_2 : decode cX4_whereNote 2 = .ok (.iconst 4, 1) := by decide +kernel
theorem dX4_whereNote_3 : decode cX4_whereNote 3 = .ok (.iload_n 1, 1) := by decide +kernel
theorem dX4_whereNote_4 : decode cX4_whereNote 4 = .ok (.imul, 1) := by decide +kernel
theorem dX4_whereNote_5 : decode cX4_whereNote 5 = .ok (.iadd, 1) := by decide +kernel
theorem dX4_whereNote_6 : decode cX4_whereNote 6 = .ok (.iconst 2, 1) := by decide +kernel
theorem dX4_whereNote_7 : decode cX4_whereNote 7 = .ok (.iadd, 1) := by decide +kernel
theorem dX4_whereNote_8 : decode cX4_whereNote 8 = .ok (.ireturn, 1) := by decide +kernel
theorem dX4_note_0 : decode cX4_note 0 = .ok (.aload_n 0, 1) := by decide +kernel
theorem dX4_note_1 : decode cX4_note 1 = .ok (.iload_n 1, 1) := by decide +kernel
theorem dX4_note_2 : decode cX4_note 2 = .ok (.invokevirtual 50, 3) := by decide +kernel
theorem dX4_note_5 : decode cX4_note 5 = .ok (.ifCond .eq 10, 3) := by decide +kernel
theorem dX4_note_8 : decode cX4_note 8 = .ok (.iload_n 2, 1) := by decide +kernel
theorem dX4_note_9 : decode cX4_note 9 = .ok (.invokestatic 137, 3) := by decide +kernel
theorem dX4_note_12 : decode cX4_note 12 = .ok (.ifCond .ne 9, 3) := by decide +kernel
theorem dX4_note_15 : decode cX4_note 15 = .ok (.aload_n 0, 1) := by decide +kernel
theorem dX4_note_16 : decode cX4_note 16 = .ok (.iconst 0, 1) := by decide +kernel
theorem dX4_note_17 : decode cX4_note 17 = .ok (.invokevirtual 92, 3) := by decide +kernel
theorem dX4_note_20 : decode cX4_note 20 = .ok (.ireturn, 1) := by decide +kernel
theorem dX4_note_21 : decode cX4_note 21 = .ok (.aload_n 0, 1) := by decide +kernel
theorem dX4_note_22 : decode cX4_note 22 = .ok (.getfield 7, 3) := by decide +kernel
theorem dX4_note_25 : decode cX4_note 25 = .ok (.aload_n 0, 1) := by decide +kernel
theorem dX4_note_26 : decode cX4_note 26 = .ok (.getfield 16, 3) := by decide +kernel
theorem dX4_note_29 : decode cX4_note 29 = .ok (.invokestatic 129, 3) := by decide +kernel
theorem dX4_note_32 : decode cX4_note 32 = .ok (.aload_n 0, 1) := by decide +kernel
theorem dX4_note_33 : decode cX4_note 33 = .ok (.iload_n 2, 1) := by decide +kernel
theorem dX4_note_34 : decode cX4_note 34 = .ok (.aload_n 0, 1) := by decide +kernel
theorem dX4_note_35 : decode cX4_note 35 = .ok (.iload_n 1, 1) := by decide +kernel
theorem dX4_note_36 : decode cX4_note 36 = .ok (.invokevirtual 140, 3) := by decide +kernel
theorem dX4_note_39 : decode cX4_note 39 = .ok (.invokevirtual 143, 3) := by decide +kernel
theorem dX4_note_42 : decode cX4_note 42 = .ok (.ireturn, 1) := by decide +kernel
theorem dX4_on_0 : decode cX4_on 0 = .ok (.aload_n 0, 1) := by decide +kernel
theorem dX4_on_1 : decode cX4_on 1 = .ok (.iload_n 1, 1) := by decide +kernel
theorem dX4_on_2 : decode cX4_on 2 = .ok (.invokevirtual 50, 3) := by decide +kernel
theorem dX4_on_5 : decode cX4_on 5 = .ok (.ifCond .eq 20, 3) := by decide +kernel
theorem dX4_on_8 : decode cX4_on 8 = .ok (.iload_n 2, 1) := by decide +kernel
theorem dX4_on_9 : decode cX4_on 9 = .ok (.invokestatic 137, 3) := by decide +kernel
theorem dX4_on_12 : decode cX4_on 12 = .ok (.ifCond .eq 13, 3) := by decide +kernel
theorem dX4_on_15 : decode cX4_on 15 = .ok (.iload_n 3, 1) := by decide +kernel
theorem dX4_on_16 : decode cX4_on 16 = .ok (.i2l, 1) := by decide +kernel
theorem dX4_on_17 : decode cX4_on 17 = .ok (.lconst 0, 1) := by decide +kernel
theorem dX4_on_18 : decode cX4_on 18 = .ok (.lconst 1, 1) := by decide +kernel
theorem dX4_on_19 : decode cX4_on 19 = .ok (.invokestatic 46, 3) := by decide +kernel
theorem dX4_on_22 : decode cX4_on 22 = .ok (.ifCond .ne 9, 3) := by decide +kernel
theorem dX4_on_25 : decode cX4_on 25 = .ok (.aload_n 0, 1) := by decide +kernel
theorem dX4_on_26 : decode cX4_on 26 = .ok (.iconst 0, 1) := by decide +kernel
theorem dX4_on_27 : decode cX4_on 27 = .ok (.invokevirtual 92, 3) := by decide +kernel
theorem dX4_on_30 : decode cX4_on 30 = .ok (.ireturn, 1) := by decide +kernel
theorem dX4_on_31 : decode cX4_on 31 = .ok (.aload_n 0, 1) := by decide +kernel
theorem dX4_on_32 : decode cX4_on 32 = .ok (.getfield 7, 3) := by decide +kernel
theorem dX4_on_35 : decode cX4_on 35 = .ok (.aload_n 0, 1) := by decide +kernel
theorem dX4_on_36 : decode cX4_on 36 = .ok (.getfield 16, 3) := by decide +kernel
theorem dX4_on_39 : decode cX4_on 39 = .ok (.invokestatic 129, 3) := by decide +kernel
theorem dX4_on_42 : decode cX4_on 42 = .ok (.aload_n 0, 1) := by decide +kernel
theorem dX4_on_43 : decode cX4_on 43 = .ok (.iload_n 2, 1) := by decide +kernel
theorem dX4_on_44 : decode cX4_on 44 = .ok (.bipush 35, 2) := by decide +kernel
theorem dX4_on_46 : decode cX4_on 46 = .ok (.iconst 4, 1) := by decide +kernel
theorem dX4_on_47 : decode cX4_on 47 = .ok (.iload_n 1, 1) := by decide +kernel
theorem dX4_on_48 : decode cX4_on 48 = .ok (.imul, 1) := by decide +kernel
theorem dX4_on_49 : decode cX4_on 49 = .ok (.iadd, 1) := by decide +kernel
theorem dX4_on_50 : decode cX4_on 50 = .ok (.iload_n 3, 1) := by decide +kernel
theorem dX4_on_51 : decode cX4_on 51 = .ok (.ifCond .ne 7, 3) := by decide +kernel
theorem dX4_on_54 : decode cX4_on 54 = .ok (.iconst 1, 1) := by decide +kernel
theorem dX4_on_55 : decode cX4_on 55 = .ok (.goto 4, 3) := by decide +kernel
theorem dX4_on_58 : decode cX4_on 58 = .ok (.iconst 3, 1) := by decide +kernel
theorem dX4_on_59 : decode cX4_on 59 = .ok (.iadd, 1) := by decide +kernel
theorem dX4_on_60 : decode cX4_on 60 = .ok (.invokevirtual 143, 3) := by decide +kernel
theorem dX4_on_63 : decode cX4_on 63 = .ok (.ireturn, 1) := by decide +kernel
theorem dX4_house_0 : decode cX4_house 0 = .ok (.iload_n 1, 1) := by decide +kernel
theorem dX4_house_1 : decode cX4_house 1 = .ok (.invokestatic 137, 3) := by decide +kernel
theorem dX4_house_4 : decode cX4_house 4 = .ok (.ifCond .ne 9, 3) := by decide +kernel
theorem dX4_house_7 : decode cX4_house 7 = .ok (.aload_n 0, 1) := by decide +kernel
theorem dX4_house_8 : decode cX4_house 8 = .ok (.iconst 0, 1) := by decide +kernel
theorem dX4_house_9 : decode cX4_house 9 = .ok (.invokevirtual 92, 3) := by decide +kernel
theorem dX4_house_12 : decode cX4_house 12 = .ok (.ireturn, 1) := by decide +kernel
theorem dX4_house_13 : decode cX4_house 13 = .ok (.aload_n 0, 1) := by decide +kernel
theorem dX4_house_14 : decode cX4_house 14 = .ok (.getfield 7, 3) := by decide +kernel
theorem dX4_house_17 : decode cX4_house 17 = .ok (.aload_n 0, 1) := by decide +kernel
theorem dX4_house_18 : decode cX4_house 18 = .ok (.getfield 16, 3) := by decide +kernel
theorem dX4_house_21 : decode cX4_house 21 = .ok (.invokestatic 129, 3) := by decide +kernel
theorem dX4_house_24 : decode cX4_house 24 = .ok (.aload_n 0, 1) := by decide +kernel
theorem dX4_house_25 : decode cX4_house 25 = .ok (.iload_n 1, 1) := by decide +kernel
theorem dX4_house_26 : decode cX4_house 26 = .ok (.invokevirtual 146, 3) := by decide +kernel
theorem dX4_house_29 : decode cX4_house 29 = .ok (.ireturn, 1) := by decide +kernel
theorem dX4_heard_0 : decode cX4_heard 0 = .ok (.iload_n 1, 1) := by decide +kernel
theorem dX4_heard_1 : decode cX4_heard 1 = .ok (.i2l, 1) := by decide +kernel
theorem dX4_heard_2 : decode cX4_heard 2 = .ok (.lconst 1, 1) := by decide +kernel
theorem dX4_heard_3 : decode cX4_heard 3 = .ok (.ldc2_w 133, 3) := by decide +kernel
theorem dX4_heard_6 : decode cX4_heard 6 = .ok (.invokestatic 46, 3) := by decide +kernel
theorem dX4_heard_9 : decode cX4_heard 9 = .ok (.ifCond .eq 10, 3) := by decide +kernel
theorem dX4_heard_12 : decode cX4_heard 12 = .ok (.iload_n 2, 1) := by decide +kernel
theorem dX4_heard_13 : decode cX4_heard 13 = .ok (.invokestatic 110, 3) := by decide +kernel
theorem dX4_heard_16 : decode cX4_heard 16 = .ok (.ifCond .ne 9, 3) := by decide +kernel
theorem dX4_heard_19 : decode cX4_heard 19 = .ok (.aload_n 0, 1) := by decide +kernel
theorem dX4_heard_20 : decode cX4_heard 20 = .ok (.iconst 0, 1) := by decide +kernel
theorem dX4_heard_21 : decode cX4_heard 21 = .ok (.invokevirtual 92, 3) := by decide +kernel
theorem dX4_heard_24 : decode cX4_heard 24 = .ok (.ireturn, 1) := by decide +kernel
theorem dX4_heard_25 : decode cX4_heard 25 = .ok (.aload_n 0, 1) := by decide +kernel
theorem dX4_heard_26 : decode cX4_heard 26 = .ok (.getfield 7, 3) := by decide +kernel
theorem dX4_heard_29 : decode cX4_heard 29 = .ok (.aload_n 0, 1) := by decide +kernel
theorem dX4_heard_30 : decode cX4_heard 30 = .ok (.getfield 16, 3) := by decide +kernel
theorem dX4_heard_33 : decode cX4_heard 33 = .ok (.invokestatic 129, 3) := by decide +kernel
theorem dX4_heard_36 : decode cX4_heard 36 = .ok (.aload_n 0, 1) := by decide +kernel
theorem dX4_heard_37 : decode cX4_heard 37 = .ok (.iload_n 1, 1) := by decide +kernel
theorem dX4_heard_38 : decode cX4_heard 38 = .ok (.iconst 1, 1) := by decide +kernel
theorem dX4_heard_39 : decode cX4_heard 39 = .ok (.isub, 1) := by decide +kernel
theorem dX4_heard_40 : decode cX4_heard 40 = .ok (.invokevirtual 125, 3) := by decide +kernel
theorem dX4_heard_43 : decode cX4_heard 43 = .ok (.aload_n 0, 1) := by decide +kernel
theorem dX4_heard_44 : decode cX4_heard 44 = .ok (.iload_n 2, 1) := by decide +kernel
theorem dX4_heard_45 : decode cX4_heard 45 = .ok (.iconst 0, 1) := by decide +kernel
theorem dX4_heard_46 : decode cX4_heard 46 = .ok (.invokevirtual 101, 3) := by decide +kernel
theorem dX4_heard_49 : decode cX4_heard 49 = .ok (.istore_n 3, 1) := by decide +kernel
theorem dX4_heard_50 : decode cX4_heard 50 = .ok (.aload_n 0, 1) := by decide +kernel
theorem dX4_heard_51 : decode cX4_heard 51 = .ok (.getfield 16, 3) := by decide +kernel
theorem dX4_heard_54 : decode cX4_heard 54 = .ok (.aload_n 0, 1) := by decide +kernel
theorem dX4_heard_55 : decode cX4_heard 55 = .ok (.getfield 7, 3) := by decide +kernel
theorem dX4_heard_58 : decode cX4_heard 58 = .ok (.invokestatic 129, 3) := by decide +kernel
theorem dX4_heard_61 : decode cX4_heard 61 = .ok (.iload_n 3, 1) := by decide +kernel
theorem dX4_heard_62 : decode cX4_heard 62 = .ok (.ireturn, 1) := by decide +kernel
theorem dX4_does_0 : decode cX4_does 0 = .ok (.aload_n 0, 1) := by decide +kernel
theorem dX4_does_1 : decode cX4_does 1 = .ok (.iload_n 1, 1) := by decide +kernel
theorem dX4_does_2 : decode cX4_does 2 = .ok (.invokevirtual 50, 3) := by decide +kernel
theorem dX4_does_5 : decode cX4_does 5 = .ok (.ifCond .eq 10, 3) := by decide +kernel
theorem dX4_does_8 : decode cX4_does 8 = .ok (.iload_n 2, 1) := by decide +kernel
theorem dX4_does_9 : decode cX4_does 9 = .ok (.invokestatic 110, 3) := by decide +kernel
theorem dX4_does_12 : decode cX4_does 12 = .ok (.ifCond .ne 9, 3) := by decide +kernel
theorem dX4_does_15 : decode cX4_does 15 = .ok (.aload_n 0, 1) := by decide +kernel
theorem dX4_does_16 : decode cX4_does 16 = .ok (.iconst 0, 1) := by decide +kernel
theorem dX4_does_17 : decode cX4_does 17 = .ok (.invokevirtual 92, 3) := by decide +kernel
theorem dX4_does_20 : decode cX4_does 20 = .ok (.ireturn, 1) := by decide +kernel
theorem dX4_does_21 : decode cX4_does 21 = .ok (.aload_n 0, 1) := by decide +kernel
theorem dX4_does_22 : decode cX4_does 22 = .ok (.getfield 7, 3) := by decide +kernel
theorem dX4_does_25 : decode cX4_does 25 = .ok (.aload_n 0, 1) := by decide +kernel
theorem dX4_does_26 : decode cX4_does 26 = .ok (.getfield 16, 3) := by decide +kernel
theorem dX4_does_29 : decode cX4_does 29 = .ok (.invokestatic 129, 3) := by decide +kernel
theorem dX4_does_32 : decode cX4_does 32 = .ok (.iconst 1, 1) := by decide +kernel
theorem dX4_does_33 : decode cX4_does 33 = .ok (.istore_n 3, 1) := by decide +kernel
theorem dX4_does_34 : decode cX4_does 34 = .ok (.iload_n 3, 1) := by decide +kernel
theorem dX4_does_35 : decode cX4_does 35 = .ok (.sipush 400, 3) := by decide +kernel
theorem dX4_does_38 : decode cX4_does 38 = .ok (.if_icmp .ge 22, 3) := by decide +kernel
theorem dX4_does_41 : decode cX4_does 41 = .ok (.aload_n 0, 1) := by decide +kernel
theorem dX4_does_42 : decode cX4_does 42 = .ok (.iload_n 1, 1) := by decide +kernel
theorem dX4_does_43 : decode cX4_does 43 = .ok (.invokevirtual 66, 3) := by decide +kernel
theorem dX4_does_46 : decode cX4_does 46 = .ok (.iload_n 2, 1) := by decide +kernel
theorem dX4_does_47 : decode cX4_does 47 = .ok (.if_icmp .eq 13, 3) := by decide +kernel
theorem dX4_does_50 : decode cX4_does 50 = .ok (.aload_n 0, 1) := by decide +kernel
theorem dX4_does_51 : decode cX4_does 51 = .ok (.invokevirtual 80, 3) := by decide +kernel
theorem dX4_does_54 : decode cX4_does 54 = .ok (.iinc 3 1, 3) := by decide +kernel
theorem dX4_does_57 : decode cX4_does 57 = .ok (.goto (-23), 3) := by decide +kernel
theorem dX4_does_60 : decode cX4_does 60 = .ok (.aload_n 0, 1) := by decide +kernel
theorem dX4_does_61 : decode cX4_does 61 = .ok (.iload_n 1, 1) := by decide +kernel
theorem dX4_does_62 : decode cX4_does 62 = .ok (.invokevirtual 66, 3) := by decide +kernel
theorem dX4_does_65 : decode cX4_does 65 = .ok (.iload_n 2, 1) := by decide +kernel
theorem dX4_does_66 : decode cX4_does 66 = .ok (.if_icmp .ne 7, 3) := by decide +kernel
theorem dX4_does_69 : decode cX4_does 69 = .ok (.iconst 1, 1) := by decide +kernel
theorem dX4_does_70 : decode cX4_does 70 = .ok (.goto 4, 3) := by decide +kernel
theorem dX4_does_73 : decode cX4_does 73 = .ok (.iconst 0, 1) := by decide +kernel
theorem dX4_does_74 : decode cX4_does 74 = .ok (.istore 4, 2) := by decide +kernel
theorem dX4_does_76 : decode cX4_does 76 = .ok (.aload_n 0, 1) := by decide +kernel
theorem dX4_does_77 : decode cX4_does 77 = .ok (.getfield 16, 3) := by decide +kernel
theorem dX4_does_80 : decode cX4_does 80 = .ok (.aload_n 0, 1) := by decide +kernel
theorem dX4_does_81 : decode cX4_does 81 = .ok (.getfield 7, 3) := by decide +kernel
theorem dX4_does_84 : decode cX4_does 84 = .ok (.invokestatic 129, 3) := by decide +kernel
theorem dX4_does_87 : decode cX4_does 87 = .ok (.iload 4, 2) := by decide +kernel
theorem dX4_does_89 : decode cX4_does 89 = .ok (.ifCond .eq 7, 3) := by decide +kernel
theorem dX4_does_92 : decode cX4_does 92 = .ok (.iload_n 3, 1) := by decide +kernel
theorem dX4_does_93 : decode cX4_does 93 = .ok (.goto 8, 3) := by decide +kernel
theorem dX4_does_96 : decode cX4_does 96 = .ok (.aload_n 0, 1) := by decide +kernel
theorem dX4_does_97 : decode cX4_does 97 = .ok (.iconst 3, 1) := by decide +kernel
theorem dX4_does_98 : decode cX4_does 98 = .ok (.invokevirtual 92, 3) := by decide +kernel
theorem dX4_does_101 : decode cX4_does 101 = .ok (.ireturn, 1) := by decide +kernel
theorem dX4_comes_0 : decode cX4_comes 0 = .ok (.aload_n 0, 1) := by decide +kernel
theorem dX4_comes_1 : decode cX4_comes 1 = .ok (.iload_n 1, 1) := by decide +kernel
theorem dX4_comes_2 : decode cX4_comes 2 = .ok (.invokevirtual 50, 3) := by decide +kernel
theorem dX4_comes_5 : decode cX4_comes 5 = .ok (.ifCond .eq 17, 3) := by decide +kernel
theorem dX4_comes_8 : decode cX4_comes 8 = .ok (.iload_n 2, 1) := by decide +kernel
theorem dX4_comes_9 : decode cX4_comes 9 = .ok (.i2l, 1) := by decide +kernel
theorem dX4_comes_10 : decode cX4_comes 10 = .ok (.ldc2_w 115, 3) := by decide +kernel
theorem dX4_comes_13 : decode cX4_comes 13 = .ok (.ldc2_w 117, 3) := by decide +kernel
theorem dX4_comes_16 : decode cX4_comes 16 = .ok (.invokestatic 46, 3) := by decide +kernel
theorem dX4_comes_19 : decode cX4_comes 19 = .ok (.ifCond .ne 9, 3) := by decide +kernel
theorem dX4_comes_22 : decode cX4_comes 22 = .ok (.aload_n 0, 1) := by decide +kernel
theorem dX4_comes_23 : decode cX4_comes 23 = .ok (.iconst 0, 1) := by decide +kernel
theorem dX4_comes_24 : decode cX4_comes 24 = .ok (.invokevirtual 92, 3) := by decide +kernel
theorem dX4_comes_27 : decode cX4_comes 27 = .ok (.ireturn, 1) := by decide +kernel
theorem dX4_comes_28 : decode cX4_comes 28 = .ok (.aload_n 0, 1) := by decide +kernel
theorem dX4_comes_29 : decode cX4_comes 29 = .ok (.getfield 7, 3) := by decide +kernel
theorem dX4_comes_32 : decode cX4_comes 32 = .ok (.aload_n 0, 1) := by decide +kernel
theorem dX4_comes_33 : decode cX4_comes 33 = .ok (.getfield 16, 3) := by decide +kernel
theorem dX4_comes_36 : decode cX4_comes 36 = .ok (.invokestatic 129, 3) := by decide +kernel
theorem dX4_comes_39 : decode cX4_comes 39 = .ok (.iconst 0, 1) := by decide +kernel
theorem dX4_comes_40 : decode cX4_comes 40 = .ok (.istore_n 3, 1) := by decide +kernel
theorem dX4_comes_41 : decode cX4_comes 41 = .ok (.iload_n 3, 1) := by decide +kernel
theorem dX4_comes_42 : decode cX4_comes 42 = .ok (.sipush 400, 3) := by decide +kernel
theorem dX4_comes_45 : decode cX4_comes 45 = .ok (.if_icmp .ge 23, 3) := by decide +kernel
theorem dX4_comes_48 : decode cX4_comes 48 = .ok (.aload_n 0, 1) := by decide +kernel
theorem dX4_comes_49 : decode cX4_comes 49 = .ok (.iload_n 1, 1) := by decide +kernel
theorem dX4_comes_50 : decode cX4_comes 50 = .ok (.iconst 2, 1) := by decide +kernel
theorem dX4_comes_51 : decode cX4_comes 51 = .ok (.invokevirtual 54, 3) := by decide +kernel
theorem dX4_comes_54 : decode cX4_comes 54 = .ok (.iload_n 2, 1) := by decide +kernel
theorem dX4_comes_55 : decode cX4_comes 55 = .ok (.if_icmp .ge 13, 3) := by decide +kernel
theorem dX4_comes_58 : decode cX4_comes 58 = .ok (.aload_n 0, 1) := by decide +kernel
theorem dX4_comes_59 : decode cX4_comes 59 = .ok (.invokevirtual 80, 3) := by decide +kernel
theorem dX4_comes_62 : decode cX4_comes 62 = .ok (.iinc 3 1, 3) := by decide +kernel
theorem dX4_comes_65 : decode cX4_comes 65 = .ok (.goto (-24), 3) := by decide +kernel
theorem dX4_comes_68 : decode cX4_comes 68 = .ok (.aload_n 0, 1) := by decide +kernel
theorem dX4_comes_69 : decode cX4_comes 69 = .ok (.iload_n 1, 1) := by decide +kernel
theorem dX4_comes_70 : decode cX4_comes 70 = .ok (.iconst 2, 1) := by decide +kernel
theorem dX4_comes_71 : decode cX4_comes 71 = .ok (.invokevirtual 54, 3) := by decide +kernel
theorem dX4_comes_74 : decode cX4_comes 74 = .ok (.iload_n 2, 1) := by decide +kernel
theorem dX4_comes_75 : decode cX4_comes 75 = .ok (.if_icmp .lt 7, 3) := by decide +kernel
theorem dX4_comes_78 : decode cX4_comes 78 = .ok (.iconst 1, 1) := by decide +kernel
theorem dX4_comes_79 : decode cX4_comes 79 = .ok (.goto 4, 3) := by decide +kernel
theorem dX4_comes_82 : decode cX4_comes 82 = .ok (.iconst 0, 1) := by decide +kernel
theorem dX4_comes_83 : decode cX4_comes 83 = .ok (.istore 4, 2) := by decide +kernel
theorem dX4_comes_85 : decode cX4_comes 85 = .ok (.aload_n 0, 1) := by decide +kernel
theorem dX4_comes_86 : decode cX4_comes 86 = .ok (.getfield 16, 3) := by decide +kernel
theorem dX4_comes_89 : decode cX4_comes 89 = .ok (.aload_n 0, 1) := by decide +kernel
theorem dX4_comes_90 : decode cX4_comes 90 = .ok (.getfield 7, 3) := by decide +kernel
theorem dX4_comes_93 : decode cX4_comes 93 = .ok (.invokestatic 129, 3) := by decide +kernel
theorem dX4_comes_96 : decode cX4_comes 96 = .ok (.iload 4, 2) := by decide +kernel
theorem dX4_comes_98 : decode cX4_comes 98 = .ok (.ifCond .eq 7, 3) := by decide +kernel
theorem dX4_comes_101 : decode cX4_comes 101 = .ok (.iload_n 3, 1) := by decide +kernel
theorem dX4_comes_102 : decode cX4_comes 102 = .ok (.goto 8, 3) := by decide +kernel
theorem dX4_comes_105 : decode cX4_comes 105 = .ok (.aload_n 0, 1) := by decide +kernel
theorem dX4_comes_106 : decode cX4_comes 106 = .ok (.iconst 3, 1) := by decide +kernel
theorem dX4_comes_107 : decode cX4_comes 107 = .ok (.invokevirtual 92, 3) := by decide +kernel
theorem dX4_comes_110 : decode cX4_comes 110 = .ok (.ireturn, 1) := by decide +kernel
theorem dX4_place_0 : decode cX4_place 0 = .ok (.aload_n 0, 1) := by decide +kernel
theorem dX4_place_1 : decode cX4_place 1 = .ok (.iload_n 1, 1) := by decide +kernel
theorem dX4_place_2 : decode cX4_place 2 = .ok (.invokevirtual 50, 3) := by decide +kernel
theorem dX4_place_5 : decode cX4_place 5 = .ok (.ifCond .eq 10, 3) := by decide +kernel
theorem dX4_place_8 : decode cX4_place 8 = .ok (.iload_n 2, 1) := by decide +kernel
theorem dX4_place_9 : decode cX4_place 9 = .ok (.invokestatic 149, 3) := by decide +kernel
theorem dX4_place_12 : decode cX4_place 12 = .ok (.ifCond .ne 9, 3) := by decide +kernel
theorem dX4_place_15 : decode cX4_place 15 = .ok (.aload_n 0, 1) := by decide +kernel
theorem dX4_place_16 : decode cX4_place 16 = .ok (.iconst 0, 1) := by decide +kernel
theorem dX4_place_17 : decode cX4_place 17 = .ok (.invokevirtual 92, 3) := by decide +kernel
theorem dX4_place_20 : decode cX4_place 20 = .ok (.ireturn, 1) := by decide +kernel
theorem dX4_place_21 : decode cX4_place 21 = .ok (.aload_n 0, 1) := by decide +kernel
theorem dX4_place_22 : decode cX4_place 22 = .ok (.getfield 7, 3) := by decide +kernel
theorem dX4_place_25 : decode cX4_place 25 = .ok (.aload_n 0, 1) := by decide +kernel
theorem dX4_place_26 : decode cX4_place 26 = .ok (.getfield 16, 3) := by decide +kernel
theorem dX4_place_29 : decode cX4_place 29 = .ok (.invokestatic 129, 3) := by decide +kernel
theorem dX4_place_32 : decode cX4_place 32 = .ok (.iconst (-1), 1) := by decide +kernel
theorem dX4_place_33 : decode cX4_place 33 = .ok (.istore_n 3, 1) := by decide +kernel
theorem dX4_place_34 : decode cX4_place 34 = .ok (.aload_n 0, 1) := by decide +kernel
theorem dX4_place_35 : decode cX4_place 35 = .ok (.iload_n 2, 1) := by decide +kernel
theorem dX4_place_36 : decode cX4_place 36 = .ok (.invokevirtual 146, 3) := by decide +kernel
theorem dX4_place_39 : decode cX4_place 39 = .ok (.istore 4, 2) := by decide +kernel
theorem dX4_place_41 : decode cX4_place 41 = .ok (.iconst 0, 1) := by decide +kernel
theorem dX4_place_42 : decode cX4_place 42 = .ok (.istore 5, 2) := by decide +kernel
theorem dX4_place_44 : decode cX4_place 44 = .ok (.iload 5, 2) := by decide +kernel
theorem dX4_place_46 : decode cX4_place 46 = .ok (.aload_n 0, 1) := by decide +kernel
theorem dX4_place_47 : decode cX4_place 47 = .ok (.getfield 7, 3) := by decide +kernel
theorem dX4_place_50 : decode cX4_place 50 = .ok (.iconst 0, 1) := by decide +kernel
theorem dX4_place_51 : decode cX4_place 51 = .ok (.iaload, 1) := by decide +kernel
theorem dX4_place_52 : decode cX4_place 52 = .ok (.if_icmp .ge 43, 3) := by decide +kernel
theorem dX4_place_55 : decode cX4_place 55 = .ok (.iload 5, 2) := by decide +kernel
theorem dX4_place_57 : decode cX4_place 57 = .ok (.iload_n 1, 1) := by decide +kernel
theorem dX4_place_58 : decode cX4_place 58 = .ok (.if_icmp .eq 31, 3) := by decide +kernel
theorem dX4_place_61 : decode cX4_place 61 = .ok (.aload_n 0, 1) := by decide +kernel
theorem dX4_place_62 : decode cX4_place 62 = .ok (.iload_n 1, 1) := by decide +kernel
theorem dX4_place_63 : decode cX4_place 63 = .ok (.iload 5, 2) := by decide +kernel
theorem dX4_place_65 : decode cX4_place 65 = .ok (.invokevirtual 119, 3) := by decide +kernel
theorem dX4_place_68 : decode cX4_place 68 = .ok (.aload_n 0, 1) := by decide +kernel
theorem dX4_place_69 : decode cX4_place 69 = .ok (.iload_n 2, 1) := by decide +kernel
theorem dX4_place_70 : decode cX4_place 70 = .ok (.invokevirtual 146, 3) := by decide +kernel
theorem dX4_place_73 : decode cX4_place 73 = .ok (.istore 6, 2) := by decide +kernel
theorem dX4_place_75 : decode cX4_place 75 = .ok (.iload 6, 2) := by decide +kernel
theorem dX4_place_77 : decode cX4_place 77 = .ok (.iload 4, 2) := by decide +kernel
theorem dX4_place_79 : decode cX4_place 79 = .ok (.if_icmp .le 10, 3) := by decide +kernel
theorem dX4_place_82 : decode cX4_place 82 = .ok (.iload 5, 2) := by decide +kernel
theorem dX4_place_84 : decode cX4_place 84 = .ok (.istore_n 3, 1) := by decide +kernel
theorem dX4_place_85 : decode cX4_place 85 = .ok (.iload 6, 2) := by decide +kernel
theorem dX4_place_87 : decode cX4_place 87 = .ok (.istore 4, 2) := by decide +kernel
theorem dX4_place_89 : decode cX4_place 89 = .ok (.iinc 5 1, 3) := by decide +kernel
theorem dX4_place_92 : decode cX4_place 92 = .ok (.goto (-48), 3) := by decide +kernel
theorem dX4_place_95 : decode cX4_place 95 = .ok (.iload_n 3, 1) := by decide +kernel
theorem dX4_place_96 : decode cX4_place 96 = .ok (.ifCond .ge 11, 3) := by decide +kernel
theorem dX4_place_99 : decode cX4_place 99 = .ok (.aload_n 0, 1) := by decide +kernel
theorem dX4_place_100 : decode cX4_place 100 = .ok (.iconst 3, 1) := by decide +kernel
theorem dX4_place_101 : decode cX4_place 101 = .ok (.invokevirtual 92, 3) := by decide +kernel
theorem dX4_place_104 : decode cX4_place 104 = .ok (.goto 4, 3) := by decide +kernel
theorem dX4_place_107 : decode cX4_place 107 = .ok (.iload_n 3, 1) := by decide +kernel
theorem dX4_place_108 : decode cX4_place 108 = .ok (.ireturn, 1) := by decide +kernel
theorem dX4_kind_0 : decode cX4_kind 0 = .ok (.aload_n 0, 1) := by decide +kernel
theorem dX4_kind_1 : decode cX4_kind 1 = .ok (.iload_n 1, 1) := by decide +kernel
theorem dX4_kind_2 : decode cX4_kind 2 = .ok (.invokevirtual 50, 3) := by decide +kernel
theorem dX4_kind_5 : decode cX4_kind 5 = .ok (.ifCond .eq 10, 3) := by decide +kernel
theorem dX4_kind_8 : decode cX4_kind 8 = .ok (.iload_n 2, 1) := by decide +kernel
theorem dX4_kind_9 : decode cX4_kind 9 = .ok (.invokestatic 149, 3) := by decide +kernel
theorem dX4_kind_12 : decode cX4_kind 12 = .ok (.ifCond .ne 9, 3) := by decide +kernel
theorem dX4_kind_15 : decode cX4_kind 15 = .ok (.aload_n 0, 1) := by decide +kernel
theorem dX4_kind_16 : decode cX4_kind 16 = .ok (.iconst 0, 1) := by decide +kernel
theorem dX4_kind_17 : decode cX4_kind 17 = .ok (.invokevirtual 92, 3) := by decide +kernel
theorem dX4_kind_20 : decode cX4_kind 20 = .ok (.ireturn, 1) := by decide +kernel
theorem dX4_kind_21 : decode cX4_kind 21 = .ok (.aload_n 0, 1) := by decide +kernel
theorem dX4_kind_22 : decode cX4_kind 22 = .ok (.getfield 7, 3) := by decide +kernel
theorem dX4_kind_25 : decode cX4_kind 25 = .ok (.aload_n 0, 1) := by decide +kernel
theorem dX4_kind_26 : decode cX4_kind 26 = .ok (.getfield 16, 3) := by decide +kernel
theorem dX4_kind_29 : decode cX4_kind 29 = .ok (.invokestatic 129, 3) := by decide +kernel
theorem dX4_kind_32 : decode cX4_kind 32 = .ok (.iconst 0, 1) := by decide +kernel
theorem dX4_kind_33 : decode cX4_kind 33 = .ok (.istore_n 3, 1) := by decide +kernel
theorem dX4_kind_34 : decode cX4_kind 34 = .ok (.sipush (-10000), 3) := by decide +kernel
theorem dX4_kind_37 : decode cX4_kind 37 = .ok (.istore 4, 2) := by decide +kernel
theorem dX4_kind_39 : decode cX4_kind 39 = .ok (.iconst 0, 1) := by decide +kernel
theorem dX4_kind_40 : decode cX4_kind 40 = .ok (.istore 5, 2) := by decide +kernel
theorem dX4_kind_42 : decode cX4_kind 42 = .ok (.iload 5, 2) := by decide +kernel
theorem dX4_kind_44 : decode cX4_kind 44 = .ok (.bipush 6, 2) := by decide +kernel
theorem dX4_kind_46 : decode cX4_kind 46 = .ok (.if_icmp .ge 43, 3) := by decide +kernel
theorem dX4_kind_49 : decode cX4_kind 49 = .ok (.aload_n 0, 1) := by decide +kernel
theorem dX4_kind_50 : decode cX4_kind 50 = .ok (.iload_n 1, 1) := by decide +kernel
theorem dX4_kind_51 : decode cX4_kind 51 = .ok (.iconst 0, 1) := by decide +kernel
theorem dX4_kind_52 : decode cX4_kind 52 = .ok (.iload 5, 2) := by decide +kernel
theorem dX4_kind_54 : decode cX4_kind 54 = .ok (.invokevirtual 73, 3) := by decide +kernel
theorem dX4_kind_57 : decode cX4_kind 57 = .ok (.aload_n 0, 1) := by decide +kernel
theorem dX4_kind_58 : decode cX4_kind 58 = .ok (.iload_n 2, 1) := by decide +kernel
theorem dX4_kind_59 : decode cX4_kind 59 = .ok (.aload_n 0, 1) := by decide +kernel
theorem dX4_kind_60 : decode cX4_kind 60 = .ok (.iload_n 1, 1) := by decide +kernel
theorem dX4_kind_61 : decode cX4_kind 61 = .ok (.invokevirtual 140, 3) := by decide +kernel
theorem dX4_kind_64 : decode cX4_kind 64 = .ok (.invokevirtual 143, 3) := by decide +kernel
theorem dX4_kind_67 : decode cX4_kind 67 = .ok (.istore 6, 2) := by decide +kernel
theorem dX4_kind_69 : decode cX4_kind 69 = .ok (.iload 6, 2) := by decide +kernel
theorem dX4_kind_71 : decode cX4_kind 71 = .ok (.iload 4, 2) := by decide +kernel
theorem dX4_kind_73 : decode cX4_kind 73 = .ok (.if_icmp .le 10, 3) := by decide +kernel
theorem dX4_kind_76 : decode cX4_kind 76 = .ok (.iload 5, 2) := by decide +kernel
theorem dX4_kind_78 : decode cX4_kind 78 = .ok (.istore_n 3, 1) := by decide +kernel
theorem dX4_kind_79 : decode cX4_kind 79 = .ok (.iload 6, 2) := by decide +kernel
theorem dX4_kind_81 : decode cX4_kind 81 = .ok (.istore 4, 2) := by decide +kernel
theorem dX4_kind_83 : decode cX4_kind 83 = .ok (.iinc 5 1, 3) := by decide +kernel
theorem dX4_kind_86 : decode cX4_kind 86 = .ok (.goto (-44), 3) := by decide +kernel
theorem dX4_kind_89 : decode cX4_kind 89 = .ok (.iload_n 3, 1) := by decide +kernel
theorem dX4_kind_90 : decode cX4_kind 90 = .ok (.ireturn, 1) := by decide +kernel
theorem dX4_fresh_0 : decode cX4_fresh 0 = .ok (.aload_n 0, 1) := by decide +kernel
theorem dX4_fresh_1 : decode cX4_fresh 1 = .ok (.iload_n 1, 1) := by decide +kernel
theorem dX4_fresh_2 : decode cX4_fresh 2 = .ok (.invokevirtual 50, 3) := by decide +kernel
theorem dX4_fresh_5 : decode cX4_fresh 5 = .ok (.ifCond .eq 24, 3) := by decide +kernel
theorem dX4_fresh_8 : decode cX4_fresh 8 = .ok (.iload_n 2, 1) := by decide +kernel
theorem dX4_fresh_9 : decode cX4_fresh 9 = .ok (.invokestatic 149, 3) := by decide +kernel
theorem dX4_fresh_12 : decode cX4_fresh 12 = .ok (.ifCond .eq 17, 3) := by decide +kernel
theorem dX4_fresh_15 : decode cX4_fresh 15 = .ok (.iload_n 3, 1) := by decide +kernel
theorem dX4_fresh_16 : decode cX4_fresh 16 = .ok (.i2l, 1) := by decide +kernel
theorem dX4_fresh_17 : decode cX4_fresh 17 = .ok (.ldc2_w 115, 3) := by decide +kernel
theorem dX4_fresh_20 : decode cX4_fresh 20 = .ok (.ldc2_w 117, 3) := by decide +kernel
theorem dX4_fresh_23 : decode cX4_fresh 23 = .ok (.invokestatic 46, 3) := by decide +kernel
theorem dX4_fresh_26 : decode cX4_fresh 26 = .ok (.ifCond .ne 9, 3) := by decide +kernel
theorem dX4_fresh_29 : decode cX4_fresh 29 = .ok (.aload_n 0, 1) := by decide +kernel
theorem dX4_fresh_30 : decode cX4_fresh 30 = .ok (.iconst 0, 1) := by decide +kernel
theorem dX4_fresh_31 : decode cX4_fresh 31 = .ok (.invokevirtual 92, 3) := by decide +kernel
theorem dX4_fresh_34 : decode cX4_fresh 34 = .ok (.ireturn, 1) := by decide +kernel
theorem dX4_fresh_35 : decode cX4_fresh 35 = .ok (.aload_n 0, 1) := by decide +kernel
theorem dX4_fresh_36 : decode cX4_fresh 36 = .ok (.getfield 7, 3) := by decide +kernel
theorem dX4_fresh_39 : decode cX4_fresh 39 = .ok (.aload_n 0, 1) := by decide +kernel
theorem dX4_fresh_40 : decode cX4_fresh 40 = .ok (.getfield 16, 3) := by decide +kernel
theorem dX4_fresh_43 : decode cX4_fresh 43 = .ok (.invokestatic 129, 3) := by decide +kernel
theorem dX4_fresh_46 : decode cX4_fresh 46 = .ok (.iconst 0, 1) := by decide +kernel
theorem dX4_fresh_47 : decode cX4_fresh 47 = .ok (.istore 4, 2) := by decide +kernel
theorem dX4_fresh_49 : decode cX4_fresh 49 = .ok (.iload 4, 2) := by decide +kernel
theorem dX4_fresh_51 : decode cX4_fresh 51 = .ok (.bipush 99, 2) := by decide +kernel
theorem dX4_fresh_53 : decode cX4_fresh 53 = .ok (.if_icmp .gt 34, 3) := by decide +kernel
theorem dX4_fresh_56 : decode cX4_fresh 56 = .ok (.aload_n 0, 1) := by decide +kernel
theorem dX4_fresh_57 : decode cX4_fresh 57 = .ok (.iload_n 1, 1) := by decide +kernel
theorem dX4_fresh_58 : decode cX4_fresh 58 = .ok (.iconst 1, 1) := by decide +kernel
theorem dX4_fresh_59 : decode cX4_fresh 59 = .ok (.iload 4, 2) := by decide +kernel
theorem dX4_fresh_61 : decode cX4_fresh 61 = .ok (.invokevirtual 73, 3) := by decide +kernel
theorem dX4_fresh_64 : decode cX4_fresh 64 = .ok (.aload_n 0, 1) := by decide +kernel
theorem dX4_fresh_65 : decode cX4_fresh 65 = .ok (.iload_n 2, 1) := by decide +kernel
theorem dX4_fresh_66 : decode cX4_fresh 66 = .ok (.aload_n 0, 1) := by decide +kernel
theorem dX4_fresh_67 : decode cX4_fresh 67 = .ok (.iload_n 1, 1) := by decide +kernel
theorem dX4_fresh_68 : decode cX4_fresh 68 = .ok (.invokevirtual 140, 3) := by decide +kernel
theorem dX4_fresh_71 : decode cX4_fresh 71 = .ok (.invokevirtual 143, 3) := by decide +kernel
theorem dX4_fresh_74 : decode cX4_fresh 74 = .ok (.iload_n 3, 1) := by decide +kernel
theorem dX4_fresh_75 : decode cX4_fresh 75 = .ok (.if_icmp .lt 6, 3) := by decide +kernel
theorem dX4_fresh_78 : decode cX4_fresh 78 = .ok (.iload 4, 2) := by decide +kernel
theorem dX4_fresh_80 : decode cX4_fresh 80 = .ok (.ireturn, 1) := by decide +kernel
theorem dX4_fresh_81 : decode cX4_fresh 81 = .ok (.iinc 4 1, 3) := by decide +kernel
theorem dX4_fresh_84 : decode cX4_fresh 84 = .ok (.goto (-35), 3) := by decide +kernel
theorem dX4_fresh_87 : decode cX4_fresh 87 = .ok (.aload_n 0, 1) := by decide +kernel
theorem dX4_fresh_88 : decode cX4_fresh 88 = .ok (.iconst 3, 1) := by decide +kernel
theorem dX4_fresh_89 : decode cX4_fresh 89 = .ok (.invokevirtual 92, 3) := by decide +kernel
theorem dX4_fresh_92 : decode cX4_fresh 92 = .ok (.ireturn, 1) := by decide +kernel
theorem dX4_cue_0 : decode cX4_cue 0 = .ok (.iload_n 1, 1) := by decide +kernel
theorem dX4_cue_1 : decode cX4_cue 1 = .ok (.i2l, 1) := by decide +kernel
theorem dX4_cue_2 : decode cX4_cue 2 = .ok (.lconst 1, 1) := by decide +kernel
theorem dX4_cue_3 : decode cX4_cue 3 = .ok (.ldc2_w 152, 3) := by decide +kernel
theorem dX4_cue_6 : decode cX4_cue 6 = .ok (.invokestatic 46, 3) := by decide +kernel
theorem dX4_cue_9 : decode cX4_cue 9 = .ok (.ifCond .ne 9, 3) := by decide +kernel
theorem dX4_cue_12 : decode cX4_cue 12 = .ok (.aload_n 0, 1) := by decide +kernel
theorem dX4_cue_13 : decode cX4_cue 13 = .ok (.iconst 0, 1) := by decide +kernel
theorem dX4_cue_14 : decode cX4_cue 14 = .ok (.invokevirtual 92, 3) := by decide +kernel
theorem dX4_cue_17 : decode cX4_cue 17 = .ok (.ireturn, 1) := by decide +kernel
theorem dX4_cue_18 : decode cX4_cue 18 = .ok (.aload_n 0, 1) := by decide +kernel
theorem dX4_cue_19 : decode cX4_cue 19 = .ok (.getfield 7, 3) := by decide +kernel
theorem dX4_cue_22 : decode cX4_cue 22 = .ok (.aload_n 0, 1) := by decide +kernel
theorem dX4_cue_23 : decode cX4_cue 23 = .ok (.getfield 16, 3) := by decide +kernel
theorem dX4_cue_26 : decode cX4_cue 26 = .ok (.invokestatic 129, 3) := by decide +kernel
theorem dX4_cue_29 : decode cX4_cue 29 = .ok (.iconst 0, 1) := by decide +kernel
theorem dX4_cue_30 : decode cX4_cue 30 = .ok (.istore_n 2, 1) := by decide +kernel
theorem dX4_cue_31 : decode cX4_cue 31 = .ok (.ldc 154, 2) := by decide +kernel
theorem dX4_cue_33 : decode cX4_cue 33 = .ok (.istore_n 3, 1) := by decide +kernel
theorem dX4_cue_34 : decode cX4_cue 34 = .ok (.iconst 0, 1) := by decide +kernel
theorem dX4_cue_35 : decode cX4_cue 35 = .ok (.istore 4, 2) := by decide +kernel
theorem dX4_cue_37 : decode cX4_cue 37 = .ok (.iload 4, 2) := by decide +kernel
theorem dX4_cue_39 : decode cX4_cue 39 = .ok (.bipush 80, 2) := by decide +kernel
theorem dX4_cue_41 : decode cX4_cue 41 = .ok (.if_icmp .ge 45, 3) := by decide +kernel
theorem dX4_cue_44 : decode cX4_cue 44 = .ok (.aload_n 0, 1) := by decide +kernel
theorem dX4_cue_45 : decode cX4_cue 45 = .ok (.getfield 7, 3) := by decide +kernel
theorem dX4_cue_48 : decode cX4_cue 48 = .ok (.iconst 3, 1) := by decide +kernel
theorem dX4_cue_49 : decode cX4_cue 49 = .ok (.iload 4, 2) := by decide +kernel
theorem dX4_cue_51 : decode cX4_cue 51 = .ok (.bipush 16, 2) := by decide +kernel
theorem dX4_cue_53 : decode cX4_cue 53 = .ok (.irem, 1) := by decide +kernel
theorem dX4_cue_54 : decode cX4_cue 54 = .ok (.iadd, 1) := by decide +kernel
theorem dX4_cue_55 : decode cX4_cue 55 = .ok (.iload 4, 2) := by decide +kernel
theorem dX4_cue_57 : decode cX4_cue 57 = .ok (.bipush 16, 2) := by decide +kernel
theorem dX4_cue_59 : decode cX4_cue 59 = .ok (.idiv, 1) := by decide +kernel
theorem dX4_cue_60 : decode cX4_cue 60 = .ok (.iastore, 1) := by decide +kernel
theorem dX4_cue_61 : decode cX4_cue 61 = .ok (.aload_n 0, 1) := by decide +kernel
theorem dX4_cue_62 : decode cX4_cue 62 = .ok (.iload_n 1, 1) := by decide +kernel
theorem dX4_cue_63 : decode cX4_cue 63 = .ok (.invokevirtual 146, 3) := by decide +kernel
theorem dX4_cue_66 : decode cX4_cue 66 = .ok (.istore 5, 2) := by decide +kernel
theorem dX4_cue_68 : decode cX4_cue 68 = .ok (.iload 5, 2) := by decide +kernel
theorem dX4_cue_70 : decode cX4_cue 70 = .ok (.iload_n 3, 1) := by decide +kernel
theorem dX4_cue_71 : decode cX4_cue 71 = .ok (.if_icmp .le 9, 3) := by decide +kernel
theorem dX4_cue_74 : decode cX4_cue 74 = .ok (.iload 4, 2) := by decide +kernel
theorem dX4_cue_76 : decode cX4_cue 76 = .ok (.istore_n 2, 1) := by decide +kernel
theorem dX4_cue_77 : decode cX4_cue 77 = .ok (.iload 5, 2) := by decide +kernel
theorem dX4_cue_79 : decode cX4_cue 79 = .ok (.istore_n 3, 1) := by decide +kernel
theorem dX4_cue_80 : decode cX4_cue 80 = .ok (.iinc 4 1, 3) := by decide +kernel
theorem dX4_cue_83 : decode cX4_cue 83 = .ok (.goto (-46), 3) := by decide +kernel
theorem dX4_cue_86 : decode cX4_cue 86 = .ok (.iload_n 2, 1) := by decide +kernel
theorem dX4_cue_87 : decode cX4_cue 87 = .ok (.ireturn, 1) := by decide +kernel
theorem dX4_doze_0 : decode cX4_doze 0 = .ok (.iload_n 1, 1) := by decide +kernel
theorem dX4_doze_1 : decode cX4_doze 1 = .ok (.invokestatic 149, 3) := by decide +kernel
theorem dX4_doze_4 : decode cX4_doze 4 = .ok (.ifCond .ne 9, 3) := by decide +kernel
theorem dX4_doze_7 : decode cX4_doze 7 = .ok (.aload_n 0, 1) := by decide +kernel
theorem dX4_doze_8 : decode cX4_doze 8 = .ok (.iconst 0, 1) := by decide +kernel
theorem dX4_doze_9 : decode cX4_doze 9 = .ok (.invokevirtual 92, 3) := by decide +kernel
theorem dX4_doze_12 : decode cX4_doze 12 = .ok (.ireturn, 1) := by decide +kernel
theorem dX4_doze_13 : decode cX4_doze 13 = .ok (.aload_n 0, 1) := by decide +kernel
theorem dX4_doze_14 : decode cX4_doze 14 = .ok (.getfield 7, 3) := by decide +kernel
theorem dX4_doze_17 : decode cX4_doze 17 = .ok (.aload_n 0, 1) := by decide +kernel
theorem dX4_doze_18 : decode cX4_doze 18 = .ok (.getfield 16, 3) := by decide +kernel
theorem dX4_doze_21 : decode cX4_doze 21 = .ok (.invokestatic 129, 3) := by decide +kernel
theorem dX4_doze_24 : decode cX4_doze 24 = .ok (.iconst (-1), 1) := by decide +kernel
theorem dX4_doze_25 : decode cX4_doze 25 = .ok (.istore_n 2, 1) := by decide +kernel
theorem dX4_doze_26 : decode cX4_doze 26 = .ok (.ldc 155, 2) := by decide +kernel
theorem dX4_doze_28 : decode cX4_doze 28 = .ok (.istore_n 3, 1) := by decide +kernel
theorem dX4_doze_29 : decode cX4_doze 29 = .ok (.iconst 0, 1) := by decide +kernel
theorem dX4_doze_30 : decode cX4_doze 30 = .ok (.istore 4, 2) := by decide +kernel
theorem dX4_doze_32 : decode cX4_doze 32 = .ok (.iload 4, 2) := by decide +kernel
theorem dX4_doze_34 : decode cX4_doze 34 = .ok (.aload_n 0, 1) := by decide +kernel
theorem dX4_doze_35 : decode cX4_doze 35 = .ok (.getfield 7, 3) := by decide +kernel
theorem dX4_doze_38 : decode cX4_doze 38 = .ok (.iconst 0, 1) := by decide +kernel
theorem dX4_doze_39 : decode cX4_doze 39 = .ok (.iaload, 1) := by decide +kernel
theorem dX4_doze_40 : decode cX4_doze 40 = .ok (.if_icmp .ge 36, 3) := by decide +kernel
theorem dX4_doze_43 : decode cX4_doze 43 = .ok (.aload_n 0, 1) := by decide +kernel
theorem dX4_doze_44 : decode cX4_doze 44 = .ok (.iload 4, 2) := by decide +kernel
theorem dX4_doze_46 : decode cX4_doze 46 = .ok (.iconst 0, 1) := by decide +kernel
theorem dX4_doze_47 : decode cX4_doze 47 = .ok (.iconst 3, 1) := by decide +kernel
theorem dX4_doze_48 : decode cX4_doze 48 = .ok (.invokevirtual 73, 3) := by decide +kernel
theorem dX4_doze_51 : decode cX4_doze 51 = .ok (.aload_n 0, 1) := by decide +kernel
theorem dX4_doze_52 : decode cX4_doze 52 = .ok (.iload_n 1, 1) := by decide +kernel
theorem dX4_doze_53 : decode cX4_doze 53 = .ok (.invokevirtual 146, 3) := by decide +kernel
theorem dX4_doze_56 : decode cX4_doze 56 = .ok (.istore 5, 2) := by decide +kernel
theorem dX4_doze_58 : decode cX4_doze 58 = .ok (.iload 5, 2) := by decide +kernel
theorem dX4_doze_60 : decode cX4_doze 60 = .ok (.iload_n 3, 1) := by decide +kernel
theorem dX4_doze_61 : decode cX4_doze 61 = .ok (.if_icmp .ge 9, 3) := by decide +kernel
theorem dX4_doze_64 : decode cX4_doze 64 = .ok (.iload 4, 2) := by decide +kernel
theorem dX4_doze_66 : decode cX4_doze 66 = .ok (.istore_n 2, 1) := by decide +kernel
theorem dX4_doze_67 : decode cX4_doze 67 = .ok (.iload 5, 2) := by decide +kernel
theorem dX4_doze_69 : decode cX4_doze 69 = .ok (.istore_n 3, 1) := by decide +kernel
theorem dX4_doze_70 : decode cX4_doze 70 = .ok (.iinc 4 1, 3) := by decide +kernel
theorem dX4_doze_73 : decode cX4_doze 73 = .ok (.goto (-41), 3) := by decide +kernel
theorem dX4_doze_76 : decode cX4_doze 76 = .ok (.iload_n 2, 1) := by decide +kernel
theorem dX4_doze_77 : decode cX4_doze 77 = .ok (.ifCond .ge 11, 3) := by decide +kernel
theorem dX4_doze_80 : decode cX4_doze 80 = .ok (.aload_n 0, 1) := by decide +kernel
theorem dX4_doze_81 : decode cX4_doze 81 = .ok (.iconst 3, 1) := by decide +kernel
theorem dX4_doze_82 : decode cX4_doze 82 = .ok (.invokevirtual 92, 3) := by decide +kernel
theorem dX4_doze_85 : decode cX4_doze 85 = .ok (.goto 4, 3) := by decide +kernel
theorem dX4_doze_88 : decode cX4_doze 88 = .ok (.iload_n 2, 1) := by decide +kernel
theorem dX4_doze_89 : decode cX4_doze 89 = .ok (.ireturn, 1) := by decide +kernel
theorem dX4_tense_0 : decode cX4_tense 0 = .ok (.iload_n 1, 1) := by decide +kernel
theorem dX4_tense_1 : decode cX4_tense 1 = .ok (.invokestatic 149, 3) := by decide +kernel
theorem dX4_tense_4 : decode cX4_tense 4 = .ok (.ifCond .eq 17, 3) := by decide +kernel
theorem dX4_tense_7 : decode cX4_tense 7 = .ok (.iload_n 2, 1) := by decide +kernel
theorem dX4_tense_8 : decode cX4_tense 8 = .ok (.i2l, 1) := by decide +kernel
theorem dX4_tense_9 : decode cX4_tense 9 = .ok (.ldc2_w 115, 3) := by decide +kernel
theorem dX4_tense_12 : decode cX4_tense 12 = .ok (.ldc2_w 117, 3) := by decide +kernel
theorem dX4_tense_15 : decode cX4_tense 15 = .ok (.invokestatic 46, 3) := by decide +kernel
theorem dX4_tense_18 : decode cX4_tense 18 = .ok (.ifCond .ne 9, 3) := by decide +kernel
theorem dX4_tense_21 : decode cX4_tense 21 = .ok (.aload_n 0, 1) := by decide +kernel
theorem dX4_tense_22 : decode cX4_tense 22 = .ok (.iconst 0, 1) := by decide +kernel
theorem dX4_tense_23 : decode cX4_tense 23 = .ok (.invokevirtual 92, 3) := by decide +kernel
theorem dX4_tense_26 : decode cX4_tense 26 = .ok (.ireturn, 1) := by decide +kernel
theorem dX4_tense_27 : decode cX4_tense 27 = .ok (.aload_n 0, 1) := by decide +kernel
theorem dX4_tense_28 : decode cX4_tense 28 = .ok (.getfield 7, 3) := by decide +kernel
theorem dX4_tense_31 : decode cX4_tense 31 = .ok (.aload_n 0, 1) := by decide +kernel
theorem dX4_tense_32 : decode cX4_tense 32 = .ok (.getfield 16, 3) := by decide +kernel
theorem dX4_tense_35 : decode cX4_tense 35 = .ok (.invokestatic 129, 3) := by decide +kernel
theorem dX4_tense_38 : decode cX4_tense 38 = .ok (.bipush 20, 2) := by decide +kernel
theorem dX4_tense_40 : decode cX4_tense 40 = .ok (.istore_n 3, 1) := by decide +kernel
theorem dX4_tense_41 : decode cX4_tense 41 = .ok (.iload_n 3, 1) := by decide +kernel
theorem dX4_tense_42 : decode cX4_tense 42 = .ok (.ifCond .lt 47, 3) := by decide +kernel
theorem dX4_tense_45 : decode cX4_tense 45 = .ok (.iconst 0, 1) := by decide +kernel
theorem dX4_tense_46 : decode cX4_tense 46 = .ok (.istore 4, 2) := by decide +kernel
theorem dX4_tense_48 : decode cX4_tense 48 = .ok (.iload 4, 2) := by decide +kernel
theorem dX4_tense_50 : decode cX4_tense 50 = .ok (.bipush 16, 2) := by decide +kernel
theorem dX4_tense_52 : decode cX4_tense 52 = .ok (.if_icmp .ge 20, 3) := by decide +kernel
theorem dX4_tense_55 : decode cX4_tense 55 = .ok (.aload_n 0, 1) := by decide +kernel
theorem dX4_tense_56 : decode cX4_tense 56 = .ok (.getfield 7, 3) := by decide +kernel
theorem dX4_tense_59 : decode cX4_tense 59 = .ok (.bipush 19, 2) := by decide +kernel
theorem dX4_tense_61 : decode cX4_tense 61 = .ok (.iload 4, 2) := by decide +kernel
theorem dX4_tense_63 : decode cX4_tense 63 = .ok (.iadd, 1) := by decide +kernel
theorem dX4_tense_64 : decode cX4_tense 64 = .ok (.iload_n 3, 1) := by decide +kernel
theorem dX4_tense_65 : decode cX4_tense 65 = .ok (.iastore, 1) := by decide +kernel
theorem dX4_tense_66 : decode cX4_tense 66 = .ok (.iinc 4 1, 3) := by decide +kernel
theorem dX4_tense_69 : decode cX4_tense 69 = .ok (.goto (-21), 3) := by decide +kernel
theorem dX4_tense_72 : decode cX4_tense 72 = .ok (.aload_n 0, 1) := by decide +kernel
theorem dX4_tense_73 : decode cX4_tense 73 = .ok (.iload_n 1, 1) := by decide +kernel
theorem dX4_tense_74 : decode cX4_tense 74 = .ok (.invokevirtual 146, 3) := by decide +kernel
theorem dX4_tense_77 : decode cX4_tense 77 = .ok (.iload_n 2, 1) := by decide +kernel
theorem dX4_tense_78 : decode cX4_tense 78 = .ok (.if_icmp .lt 5, 3) := by decide +kernel
theorem dX4_tense_81 : decode cX4_tense 81 = .ok (.iload_n 3, 1) := by decide +kernel
theorem dX4_tense_82 : decode cX4_tense 82 = .ok (.ireturn, 1) := by decide +kernel
theorem dX4_tense_83 : decode cX4_tense 83 = .ok (.iinc 3 (-1), 3) := by decide +kernel
theorem dX4_tense_86 : decode cX4_tense 86 = .ok (.goto (-45), 3) := by decide +kernel
theorem dX4_tense_89 : decode cX4_tense 89 = .ok (.aload_n 0, 1) := by decide +kernel
theorem dX4_tense_90 : decode cX4_tense 90 = .ok (.iconst 3, 1) := by decide +kernel
theorem dX4_tense_91 : decode cX4_tense 91 = .ok (.invokevirtual 92, 3) := by decide +kernel
theorem dX4_tense_94 : decode cX4_tense 94 = .ok (.ireturn, 1) := by decide +kernel
theorem dX4_best_0 : decode cX4_best 0 = .ok (.iload_n 1, 1) := by decide +kernel
theorem dX4_best_1 : decode cX4_best 1 = .ok (.invokestatic 137, 3) := by decide +kernel
theorem dX4_best_4 : decode cX4_best 4 = .ok (.ifCond .ne 9, 3) := by decide +kernel
theorem dX4_best_7 : decode cX4_best 7 = .ok (.aload_n 0, 1) := by decide +kernel
theorem dX4_best_8 : decode cX4_best 8 = .ok (.iconst 0, 1) := by decide +kernel
theorem dX4_best_9 : decode cX4_best 9 = .ok (.invokevirtual 92, 3) := by decide +kernel
theorem dX4_best_12 : decode cX4_best 12 = .ok (.ireturn, 1) := by decide +kernel
theorem dX4_best_13 : decode cX4_best 13 = .ok (.aload_n 0, 1) := by decide +kernel
theorem dX4_best_14 : decode cX4_best 14 = .ok (.getfield 7, 3) := by decide +kernel
theorem dX4_best_17 : decode cX4_best 17 = .ok (.aload_n 0, 1) := by decide +kernel
theorem dX4_best_18 : decode cX4_best 18 = .ok (.getfield 16, 3) := by decide +kernel
theorem dX4_best_21 : decode cX4_best 21 = .ok (.invokestatic 129, 3) := by decide +kernel
theorem dX4_best_24 : decode cX4_best 24 = .ok (.aload_n 0, 1) := by decide +kernel
theorem dX4_best_25 : decode cX4_best 25 = .ok (.iload_n 1, 1) := by decide +kernel
theorem dX4_best_26 : decode cX4_best 26 = .ok (.invokevirtual 125, 3) := by decide +kernel
theorem dX4_best_29 : decode cX4_best 29 = .ok (.iconst (-1), 1) := by decide +kernel
theorem dX4_best_30 : decode cX4_best 30 = .ok (.istore_n 2, 1) := by decide +kernel
theorem dX4_best_31 : decode cX4_best 31 = .ok (.iconst 0, 1) := by decide +kernel
theorem dX4_best_32 : decode cX4_best 32 = .ok (.istore_n 3, 1) := by decide +kernel
theorem dX4_best_33 : decode cX4_best 33 = .ok (.iload_n 3, 1) := by decide +kernel
theorem dX4_best_34 : decode cX4_best 34 = .ok (.aload_n 0, 1) := by decide +kernel
theorem dX4_best_35 : decode cX4_best 35 = .ok (.getfield 7, 3) := by decide +kernel
theorem dX4_best_38 : decode cX4_best 38 = .ok (.iconst 0, 1) := by decide +kernel
theorem dX4_best_39 : decode cX4_best 39 = .ok (.iaload, 1) := by decide +kernel
theorem dX4_best_40 : decode cX4_best 40 = .ok (.if_icmp .ge 34, 3) := by decide +kernel
theorem dX4_best_43 : decode cX4_best 43 = .ok (.iload_n 2, 1) := by decide +kernel
theorem dX4_best_44 : decode cX4_best 44 = .ok (.ifCond .lt 18, 3) := by decide +kernel
theorem dX4_best_47 : decode cX4_best 47 = .ok (.aload_n 0, 1) := by decide +kernel
theorem dX4_best_48 : decode cX4_best 48 = .ok (.iload_n 3, 1) := by decide +kernel
theorem dX4_best_49 : decode cX4_best 49 = .ok (.iconst 2, 1) := by decide +kernel
theorem dX4_best_50 : decode cX4_best 50 = .ok (.invokevirtual 54, 3) := by decide +kernel
theorem dX4_best_53 : decode cX4_best 53 = .ok (.aload_n 0, 1) := by decide +kernel
theorem dX4_best_54 : decode cX4_best 54 = .ok (.iload_n 2, 1) := by decide +kernel
theorem dX4_best_55 : decode cX4_best 55 = .ok (.iconst 2, 1) := by decide +kernel
theorem dX4_best_56 : decode cX4_best 56 = .ok (.invokevirtual 54, 3) := by decide +kernel
theorem dX4_best_59 : decode cX4_best 59 = .ok (.if_icmp .le 7, 3) := by decide +kernel
theorem dX4_best_62 : decode cX4_best 62 = .ok (.iload_n 3, 1) := by decide +kernel
theorem dX4_best_63 : decode cX4_best 63 = .ok (.goto 4, 3) := by decide +kernel
theorem dX4_best_66 : decode cX4_best 66 = .ok (.iload_n 2, 1) := by decide +kernel
theorem dX4_best_67 : decode cX4_best 67 = .ok (.istore_n 2, 1) := by decide +kernel
theorem dX4_best_68 : decode cX4_best 68 = .ok (.iinc 3 1, 3) := by decide +kernel
theorem dX4_best_71 : decode cX4_best 71 = .ok (.goto (-38), 3) := by decide +kernel
theorem dX4_best_74 : decode cX4_best 74 = .ok (.aload_n 0, 1) := by decide +kernel
end
section
theorem dX4_best_75 : decode cX4_best 75 = .ok (.getfield 16, 3) := by decide +kernel
theorem dX4_best_78 : decode cX4_best 78 = .ok (.aload_n 0, 1) := by decide +kernel
theorem dX4_best_79 : decode cX4_best 79 = .ok (.getfield 7, 3) := by decide +kernel
theorem dX4_best_82 : decode cX4_best 82 = .ok (.invokestatic 129, 3) := by decide +kernel
theorem dX4_best_85 : decode cX4_best 85 = .ok (.iload_n 2, 1) := by decide +kernel
theorem dX4_best_86 : decode cX4_best 86 = .ok (.ifCond .ge 11, 3) := by decide +kernel
theorem dX4_best_89 : decode cX4_best 89 = .ok (.aload_n 0, 1) := by decide +kernel
theorem dX4_best_90 : decode cX4_best 90 = .ok (.iconst 3, 1) := by decide +kernel
theorem dX4_best_91 : decode cX4_best 91 = .ok (.invokevirtual 92, 3) := by decide +kernel
theorem dX4_best_94 : decode cX4_best 94 = .ok (.goto 4, 3) := by decide +kernel
theorem dX4_best_97 : decode cX4_best 97 = .ok (.iload_n 2, 1) := by decide +kernel
theorem dX4_best_98 : decode cX4_best 98 = .ok (.ireturn, 1) := by decide +kernel
theorem dX4_feed_0 : decode cX4_feed 0 = .ok (.iload_n 2, 1) := by decide +kernel
theorem dX4_feed_1 : decode cX4_feed 1 = .ok (.i2l, 1) := by decide +kernel
theorem dX4_feed_2 : decode cX4_feed 2 = .ok (.lconst 1, 1) := by decide +kernel
theorem dX4_feed_3 : decode cX4_feed 3 = .ok (.ldc2_w 85, 3) := by decide +kernel
theorem dX4_feed_6 : decode cX4_feed 6 = .ok (.invokestatic 46, 3) := by decide +kernel
theorem dX4_feed_9 : decode cX4_feed 9 = .ok (.ifCond .ne 9, 3) := by decide +kernel
theorem dX4_feed_12 : decode cX4_feed 12 = .ok (.aload_n 0, 1) := by decide +kernel
theorem dX4_feed_13 : decode cX4_feed 13 = .ok (.iconst 0, 1) := by decide +kernel
theorem dX4_feed_14 : decode cX4_feed 14 = .ok (.invokevirtual 92, 3) := by decide +kernel
theorem dX4_feed_17 : decode cX4_feed 17 = .ok (.ireturn, 1) := by decide +kernel
theorem dX4_feed_18 : decode cX4_feed 18 = .ok (.aload_n 0, 1) := by decide +kernel
theorem dX4_feed_19 : decode cX4_feed 19 = .ok (.getfield 156, 3) := by decide +kernel
theorem dX4_feed_22 : decode cX4_feed 22 = .ok (.iload_n 2, 1) := by decide +kernel
theorem dX4_feed_23 : decode cX4_feed 23 = .ok (.iadd, 1) := by decide +kernel
theorem dX4_feed_24 : decode cX4_feed 24 = .ok (.bipush 120, 2) := by decide +kernel
theorem dX4_feed_26 : decode cX4_feed 26 = .ok (.if_icmp .le 9, 3) := by decide +kernel
theorem dX4_feed_29 : decode cX4_feed 29 = .ok (.aload_n 0, 1) := by decide +kernel
theorem dX4_feed_30 : decode cX4_feed 30 = .ok (.iconst 1, 1) := by decide +kernel
theorem dX4_feed_31 : decode cX4_feed 31 = .ok (.invokevirtual 92, 3) := by decide +kernel
theorem dX4_feed_34 : decode cX4_feed 34 = .ok (.ireturn, 1) := by decide +kernel
theorem dX4_feed_35 : decode cX4_feed 35 = .ok (.iload_n 2, 1) := by decide +kernel
theorem dX4_feed_36 : decode cX4_feed 36 = .ok (.iconst 1, 1) := by decide +kernel
theorem dX4_feed_37 : decode cX4_feed 37 = .ok (.isub, 1) := by decide +kernel
theorem dX4_feed_38 : decode cX4_feed 38 = .ok (.istore_n 3, 1) := by decide +kernel
theorem dX4_feed_39 : decode cX4_feed 39 = .ok (.iload_n 3, 1) := by decide +kernel
theorem dX4_feed_40 : decode cX4_feed 40 = .ok (.ifCond .lt 35, 3) := by decide +kernel
theorem dX4_feed_43 : decode cX4_feed 43 = .ok (.aload_n 0, 1) := by decide +kernel
theorem dX4_feed_44 : decode cX4_feed 44 = .ok (.getfield 25, 3) := by decide +kernel
theorem dX4_feed_47 : decode cX4_feed 47 = .ok (.aload_n 0, 1) := by decide +kernel
theorem dX4_feed_48 : decode cX4_feed 48 = .ok (.getfield 156, 3) := by decide +kernel
theorem dX4_feed_51 : decode cX4_feed 51 = .ok (.iload_n 1, 1) := by decide +kernel
theorem dX4_feed_52 : decode cX4_feed 52 = .ok (.bipush 8, 2) := by decide +kernel
theorem dX4_feed_54 : decode cX4_feed 54 = .ok (.iload_n 3, 1) := by decide +kernel
theorem dX4_feed_55 : decode cX4_feed 55 = .ok (.imul, 1) := by decide +kernel
theorem dX4_feed_56 : decode cX4_feed 56 = .ok (.ishr, 1) := by decide +kernel
theorem dX4_feed_57 : decode cX4_feed 57 = .ok (.i2b, 1) := by decide +kernel
theorem dX4_feed_58 : decode cX4_feed 58 = .ok (.bastore, 1) := by decide +kernel
theorem dX4_feed_59 : decode cX4_feed 59 = .ok (.aload_n 0, 1) := by decide +kernel
theorem dX4_feed_60 : decode cX4_feed 60 = .ok (.dup, 1) := by decide +kernel
theorem dX4_feed_61 : decode cX4_feed 61 = .ok (.getfield 156, 3) := by decide +kernel
theorem dX4_feed_64 : decode cX4_feed 64 = .ok (.iconst 1, 1) := by decide +kernel
theorem dX4_feed_65 : decode cX4_feed 65 = .ok (.iadd, 1) := by decide +kernel
theorem dX4_feed_66 : decode cX4_feed 66 = .ok (.putfield 156, 3) := by decide +kernel
theorem dX4_feed_69 : decode cX4_feed 69 = .ok (.iinc 3 (-1), 3) := by decide +kernel
theorem dX4_feed_72 : decode cX4_feed 72 = .ok (.goto (-33), 3) := by decide +kernel
theorem dX4_feed_75 : decode cX4_feed 75 = .ok (.aload_n 0, 1) := by decide +kernel
theorem dX4_feed_76 : decode cX4_feed 76 = .ok (.getfield 156, 3) := by decide +kernel
theorem dX4_feed_79 : decode cX4_feed 79 = .ok (.ireturn, 1) := by decide +kernel
theorem dX4_wipe_0 : decode cX4_wipe 0 = .ok (.aload_n 0, 1) := by decide +kernel
theorem dX4_wipe_1 : decode cX4_wipe 1 = .ok (.getfield 156, 3) := by decide +kernel
theorem dX4_wipe_4 : decode cX4_wipe 4 = .ok (.istore_n 1, 1) := by decide +kernel
theorem dX4_wipe_5 : decode cX4_wipe 5 = .ok (.aload_n 0, 1) := by decide +kernel
theorem dX4_wipe_6 : decode cX4_wipe 6 = .ok (.iconst 0, 1) := by decide +kernel
theorem dX4_wipe_7 : decode cX4_wipe 7 = .ok (.putfield 156, 3) := by decide +kernel
theorem dX4_wipe_10 : decode cX4_wipe 10 = .ok (.iload_n 1, 1) := by decide +kernel
theorem dX4_wipe_11 : decode cX4_wipe 11 = .ok (.ireturn, 1) := by decide +kernel
theorem dX4_letter_0 : decode cX4_letter 0 = .ok (.iload_n 0, 1) := by decide +kernel
theorem dX4_letter_1 : decode cX4_letter 1 = .ok (.bipush 97, 2) := by decide +kernel
theorem dX4_letter_3 : decode cX4_letter 3 = .ok (.if_icmp .lt 18, 3) := by decide +kernel
theorem dX4_letter_6 : decode cX4_letter 6 = .ok (.iload_n 0, 1) := by decide +kernel
theorem dX4_letter_7 : decode cX4_letter 7 = .ok (.bipush 122, 2) := by decide +kernel
theorem dX4_letter_9 : decode cX4_letter 9 = .ok (.if_icmp .gt 12, 3) := by decide +kernel
theorem dX4_letter_12 : decode cX4_letter 12 = .ok (.iload_n 0, 1) := by decide +kernel
theorem dX4_letter_13 : decode cX4_letter 13 = .ok (.bipush 97, 2) := by decide +kernel
theorem dX4_letter_15 : decode cX4_letter 15 = .ok (.isub, 1) := by decide +kernel
theorem dX4_letter_16 : decode cX4_letter 16 = .ok (.iconst 1, 1) := by decide +kernel
theorem dX4_letter_17 : decode cX4_letter 17 = .ok (.iadd, 1) := by decide +kernel
theorem dX4_letter_18 : decode cX4_letter 18 = .ok (.goto 4, 3) := by decide +kernel
theorem dX4_letter_21 : decode cX4_letter 21 = .ok (.iconst 0, 1) := by decide +kernel
theorem dX4_letter_22 : decode cX4_letter 22 = .ok (.ireturn, 1) := by decide +kernel
theorem dX4_isDigit_0 : decode cX4_isDigit 0 = .ok (.iload_n 0, 1) := by decide +kernel
theorem dX4_isDigit_1 : decode cX4_isDigit 1 = .ok (.bipush 48, 2) := by decide +kernel
theorem dX4_isDigit_3 : decode cX4_isDigit 3 = .ok (.if_icmp .lt 13, 3) := by decide +kernel
theorem dX4_isDigit_6 : decode cX4_isDigit 6 = .ok (.iload_n 0, 1) := by decide +kernel
theorem dX4_isDigit_7 : decode cX4_isDigit 7 = .ok (.bipush 57, 2) := by decide +kernel
theorem dX4_isDigit_9 : decode cX4_isDigit 9 = .ok (.if_icmp .gt 7, 3) := by decide +kernel
theorem dX4_isDigit_12 : decode cX4_isDigit 12 = .ok (.iconst 1, 1) := by decide +kernel
theorem dX4_isDigit_13 : decode cX4_isDigit 13 = .ok (.goto 4, 3) := by decide +kernel
theorem dX4_isDigit_16 : decode cX4_isDigit 16 = .ok (.iconst 0, 1) := by decide +kernel
theorem dX4_isDigit_17 : decode cX4_isDigit 17 = .ok (.ireturn, 1) := by decide +kernel
theorem dX4_byteAt_0 : decode cX4_byteAt 0 = .ok (.iload_n 1, 1) := by decide +kernel
theorem dX4_byteAt_1 : decode cX4_byteAt 1 = .ok (.aload_n 0, 1) := by decide +kernel
theorem dX4_byteAt_2 : decode cX4_byteAt 2 = .ok (.getfield 156, 3) := by decide +kernel
theorem dX4_byteAt_5 : decode cX4_byteAt 5 = .ok (.if_icmp .ge 12, 3) := by decide +kernel
theorem dX4_byteAt_8 : decode cX4_byteAt 8 = .ok (.aload_n 0, 1) := by decide +kernel
theorem dX4_byteAt_9 : decode cX4_byteAt 9 = .ok (.getfield 25, 3) := by decide +kernel
theorem dX4_byteAt_12 : decode cX4_byteAt 12 = .ok (.iload_n 1, 1) := by decide +kernel
theorem dX4_byteAt_13 : decode cX4_byteAt 13 = .ok (.baload, 1) := by decide +kernel
theorem dX4_byteAt_14 : decode cX4_byteAt 14 = .ok (.goto 4, 3) := by decide +kernel
theorem dX4_byteAt_17 : decode cX4_byteAt 17 = .ok (.iconst (-1), 1) := by decide +kernel
theorem dX4_byteAt_18 : decode cX4_byteAt 18 = .ok (.ireturn, 1) := by decide +kernel
theorem dX4_next_0 : decode cX4_next 0 = .ok (.aload_n 0, 1) := by decide +kernel
theorem dX4_next_1 : decode cX4_next 1 = .ok (.aload_n 0, 1) := by decide +kernel
theorem dX4_next_2 : decode cX4_next 2 = .ok (.getfield 160, 3) := by decide +kernel
theorem dX4_next_5 : decode cX4_next 5 = .ok (.invokevirtual 163, 3) := by decide +kernel
theorem dX4_next_8 : decode cX4_next 8 = .ok (.bipush 32, 2) := by decide +kernel
theorem dX4_next_10 : decode cX4_next 10 = .ok (.if_icmp .ne 16, 3) := by decide +kernel
theorem dX4_next_13 : decode cX4_next 13 = .ok (.aload_n 0, 1) := by decide +kernel
theorem dX4_next_14 : decode cX4_next 14 = .ok (.dup, 1) := by decide +kernel
theorem dX4_next_15 : decode cX4_next 15 = .ok (.getfield 160, 3) := by decide +kernel
theorem dX4_next_18 : decode cX4_next 18 = .ok (.iconst 1, 1) := by decide +kernel
theorem dX4_next_19 : decode cX4_next 19 = .ok (.iadd, 1) := by decide +kernel
theorem dX4_next_20 : decode cX4_next 20 = .ok (.putfield 160, 3) := by decide +kernel
theorem dX4_next_23 : decode cX4_next 23 = .ok (.goto (-23), 3) := by decide +kernel
theorem dX4_next_26 : decode cX4_next 26 = .ok (.aload_n 0, 1) := by decide +kernel
theorem dX4_next_27 : decode cX4_next 27 = .ok (.aload_n 0, 1) := by decide +kernel
theorem dX4_next_28 : decode cX4_next 28 = .ok (.getfield 160, 3) := by decide +kernel
theorem dX4_next_31 : decode cX4_next 31 = .ok (.putfield 166, 3) := by decide +kernel
theorem dX4_next_34 : decode cX4_next 34 = .ok (.aload_n 0, 1) := by decide +kernel
theorem dX4_next_35 : decode cX4_next 35 = .ok (.lconst 0, 1) := by decide +kernel
theorem dX4_next_36 : decode cX4_next 36 = .ok (.putfield 169, 3) := by decide +kernel
theorem dX4_next_39 : decode cX4_next 39 = .ok (.aload_n 0, 1) := by decide +kernel
theorem dX4_next_40 : decode cX4_next 40 = .ok (.aload_n 0, 1) := by decide +kernel
theorem dX4_next_41 : decode cX4_next 41 = .ok (.getfield 160, 3) := by decide +kernel
theorem dX4_next_44 : decode cX4_next 44 = .ok (.invokevirtual 163, 3) := by decide +kernel
theorem dX4_next_47 : decode cX4_next 47 = .ok (.istore_n 1, 1) := by decide +kernel
theorem dX4_next_48 : decode cX4_next 48 = .ok (.aload_n 0, 1) := by decide +kernel
theorem dX4_next_49 : decode cX4_next 49 = .ok (.getfield 160, 3) := by decide +kernel
theorem dX4_next_52 : decode cX4_next 52 = .ok (.aload_n 0, 1) := by decide +kernel
theorem dX4_next_53 : decode cX4_next 53 = .ok (.getfield 156, 3) := by decide +kernel
theorem dX4_next_56 : decode cX4_next 56 = .ok (.if_icmp .ne 11, 3) := by decide +kernel
theorem dX4_next_59 : decode cX4_next 59 = .ok (.aload_n 0, 1) := by decide +kernel
theorem dX4_next_60 : decode cX4_next 60 = .ok (.iconst 0, 1) := by decide +kernel
theorem dX4_next_61 : decode cX4_next 61 = .ok (.putfield 173, 3) := by decide +kernel
theorem dX4_next_64 : decode cX4_next 64 = .ok (.goto 197, 3) := by decide +kernel
theorem dX4_next_67 : decode cX4_next 67 = .ok (.iload_n 1, 1) := by decide +kernel
theorem dX4_next_68 : decode cX4_next 68 = .ok (.bipush 59, 2) := by decide +kernel
theorem dX4_next_70 : decode cX4_next 70 = .ok (.if_icmp .ne 21, 3) := by decide +kernel
theorem dX4_next_73 : decode cX4_next 73 = .ok (.aload_n 0, 1) := by decide +kernel
theorem dX4_next_74 : decode cX4_next 74 = .ok (.iconst 3, 1) := by decide +kernel
theorem dX4_next_75 : decode cX4_next 75 = .ok (.putfield 173, 3) := by decide +kernel
theorem dX4_next_78 : decode cX4_next 78 = .ok (.aload_n 0, 1) := by decide +kernel
theorem dX4_next_79 : decode cX4_next 79 = .ok (.dup, 1) := by decide +kernel
theorem dX4_next_80 : decode cX4_next 80 = .ok (.getfield 160, 3) := by decide +kernel
theorem dX4_next_83 : decode cX4_next 83 = .ok (.iconst 1, 1) := by decide +kernel
theorem dX4_next_84 : decode cX4_next 84 = .ok (.iadd, 1) := by decide +kernel
theorem dX4_next_85 : decode cX4_next 85 = .ok (.putfield 160, 3) := by decide +kernel
theorem dX4_next_88 : decode cX4_next 88 = .ok (.goto 173, 3) := by decide +kernel
theorem dX4_next_91 : decode cX4_next 91 = .ok (.iload_n 1, 1) := by decide +kernel
theorem dX4_next_92 : decode cX4_next 92 = .ok (.invokestatic 176, 3) := by decide +kernel
theorem dX4_next_95 : decode cX4_next 95 = .ok (.ifCond .le 78, 3) := by decide +kernel
theorem dX4_next_98 : decode cX4_next 98 = .ok (.aload_n 0, 1) := by decide +kernel
theorem dX4_next_99 : decode cX4_next 99 = .ok (.iconst 1, 1) := by decide +kernel
theorem dX4_next_100 : decode cX4_next 100 = .ok (.putfield 173, 3) := by decide +kernel
theorem dX4_next_103 : decode cX4_next 103 = .ok (.aload_n 0, 1) := by decide +kernel
theorem dX4_next_104 : decode cX4_next 104 = .ok (.aload_n 0, 1) := by decide +kernel
theorem dX4_next_105 : decode cX4_next 105 = .ok (.getfield 160, 3) := by decide +kernel
theorem dX4_next_108 : decode cX4_next 108 = .ok (.invokevirtual 163, 3) := by decide +kernel
theorem dX4_next_111 : decode cX4_next 111 = .ok (.invokestatic 176, 3) := by decide +kernel
theorem dX4_next_114 : decode cX4_next 114 = .ok (.ifCond .le 147, 3) := by decide +kernel
theorem dX4_next_117 : decode cX4_next 117 = .ok (.aload_n 0, 1) := by decide +kernel
theorem dX4_next_118 : decode cX4_next 118 = .ok (.aload_n 0, 1) := by decide +kernel
theorem dX4_next_119 : decode cX4_next 119 = .ok (.getfield 169, 3) := by decide +kernel
theorem dX4_next_122 : decode cX4_next 122 = .ok (.ldc2_w 179, 3) := by decide +kernel
theorem dX4_next_125 : decode cX4_next 125 = .ok (.lcmp, 1) := by decide +kernel
theorem dX4_next_126 : decode cX4_next 126 = .ok (.ifCond .le 10, 3) := by decide +kernel
theorem dX4_next_129 : decode cX4_next 129 = .ok (.aload_n 0, 1) := by decide +kernel
theorem dX4_next_130 : decode cX4_next 130 = .ok (.getfield 169, 3) := by decide +kernel
theorem dX4_next_133 : decode cX4_next 133 = .ok (.goto 24, 3) := by decide +kernel
theorem dX4_next_136 : decode cX4_next 136 = .ok (.aload_n 0, 1) := by decide +kernel
theorem dX4_next_137 : decode cX4_next 137 = .ok (.getfield 169, 3) := by decide +kernel
theorem dX4_next_140 : decode cX4_next 140 = .ok (.ldc2_w 181, 3) := by decide +kernel
theorem dX4_next_143 : decode cX4_next 143 = .ok (.lmul, 1) := by decide +kernel
theorem dX4_next_144 : decode cX4_next 144 = .ok (.aload_n 0, 1) := by decide +kernel
theorem dX4_next_145 : decode cX4_next 145 = .ok (.aload_n 0, 1) := by decide +kernel
theorem dX4_next_146 : decode cX4_next 146 = .ok (.getfield 160, 3) := by decide +kernel
theorem dX4_next_149 : decode cX4_next 149 = .ok (.invokevirtual 163, 3) := by decide +kernel
theorem dX4_next_152 : decode cX4_next 152 = .ok (.invokestatic 176, 3) := by decide +kernel
theorem dX4_next_155 : decode cX4_next 155 = .ok (.i2l, 1) := by decide +kernel
theorem dX4_next_156 : decode cX4_next 156 = .ok (.ladd, 1) := by decide +kernel
theorem dX4_next_157 : decode cX4_next 157 = .ok (.putfield 169, 3) := by decide +kernel
theorem dX4_next_160 : decode cX4_next 160 = .ok (.aload_n 0, 1) := by decide +kernel
theorem dX4_next_161 : decode cX4_next 161 = .ok (.dup, 1) := by decide +kernel
theorem dX4_next_162 : decode cX4_next 162 = .ok (.getfield 160, 3) := by decide +kernel
theorem dX4_next_165 : decode cX4_next 165 = .ok (.iconst 1, 1) := by decide +kernel
theorem dX4_next_166 : decode cX4_next 166 = .ok (.iadd, 1) := by decide +kernel
theorem dX4_next_167 : decode cX4_next 167 = .ok (.putfield 160, 3) := by decide +kernel
theorem dX4_next_170 : decode cX4_next 170 = .ok (.goto (-67), 3) := by decide +kernel
theorem dX4_next_173 : decode cX4_next 173 = .ok (.iload_n 1, 1) := by decide +kernel
theorem dX4_next_174 : decode cX4_next 174 = .ok (.invokestatic 183, 3) := by decide +kernel
theorem dX4_next_177 : decode cX4_next 177 = .ok (.ifCond .eq 79, 3) := by decide +kernel
theorem dX4_next_180 : decode cX4_next 180 = .ok (.aload_n 0, 1) := by decide +kernel
theorem dX4_next_181 : decode cX4_next 181 = .ok (.iconst 2, 1) := by decide +kernel
theorem dX4_next_182 : decode cX4_next 182 = .ok (.putfield 173, 3) := by decide +kernel
theorem dX4_next_185 : decode cX4_next 185 = .ok (.aload_n 0, 1) := by decide +kernel
theorem dX4_next_186 : decode cX4_next 186 = .ok (.aload_n 0, 1) := by decide +kernel
theorem dX4_next_187 : decode cX4_next 187 = .ok (.getfield 160, 3) := by decide +kernel
theorem dX4_next_190 : decode cX4_next 190 = .ok (.invokevirtual 163, 3) := by decide +kernel
theorem dX4_next_193 : decode cX4_next 193 = .ok (.invokestatic 183, 3) := by decide +kernel
theorem dX4_next_196 : decode cX4_next 196 = .ok (.ifCond .eq 65, 3) := by decide +kernel
theorem dX4_next_199 : decode cX4_next 199 = .ok (.aload_n 0, 1) := by decide +kernel
theorem dX4_next_200 : decode cX4_next 200 = .ok (.aload_n 0, 1) := by decide +kernel
theorem dX4_next_201 : decode cX4_next 201 = .ok (.getfield 169, 3) := by decide +kernel
theorem dX4_next_204 : decode cX4_next 204 = .ok (.ldc2_w 186, 3) := by decide +kernel
theorem dX4_next_207 : decode cX4_next 207 = .ok (.lcmp, 1) := by decide +kernel
theorem dX4_next_208 : decode cX4_next 208 = .ok (.ifCond .le 10, 3) := by decide +kernel
theorem dX4_next_211 : decode cX4_next 211 = .ok (.aload_n 0, 1) := by decide +kernel
theorem dX4_next_212 : decode cX4_next 212 = .ok (.getfield 169, 3) := by decide +kernel
theorem dX4_next_215 : decode cX4_next 215 = .ok (.goto 25, 3) := by decide +kernel
theorem dX4_next_218 : decode cX4_next 218 = .ok (.aload_n 0, 1) := by decide +kernel
theorem dX4_next_219 : decode cX4_next 219 = .ok (.getfield 169, 3) := by decide +kernel
theorem dX4_next_222 : decode cX4_next 222 = .ok (.ldc2_w 188, 3) := by decide +kernel
theorem dX4_next_225 : decode cX4_next 225 = .ok (.lmul, 1) := by decide +kernel
theorem dX4_next_226 : decode cX4_next 226 = .ok (.aload_n 0, 1) := by decide +kernel
theorem dX4_next_227 : decode cX4_next 227 = .ok (.aload_n 0, 1) := by decide +kernel
theorem dX4_next_228 : decode cX4_next 228 = .ok (.getfield 160, 3) := by decide +kernel
theorem dX4_next_231 : decode cX4_next 231 = .ok (.invokevirtual 163, 3) := by decide +kernel
theorem dX4_next_234 : decode cX4_next 234 = .ok (.i2l, 1) := by decide +kernel
theorem dX4_next_235 : decode cX4_next 235 = .ok (.ladd, 1) := by decide +kernel
theorem dX4_next_236 : decode cX4_next 236 = .ok (.ldc2_w 190, 3) := by decide +kernel
theorem dX4_next_239 : decode cX4_next 239 = .ok (.lsub, 1) := by decide +kernel
theorem dX4_next_240 : decode cX4_next 240 = .ok (.putfield 169, 3) := by decide +kernel
theorem dX4_next_243 : decode cX4_next 243 = .ok (.aload_n 0, 1) := by decide +kernel
theorem dX4_next_244 : decode cX4_next 244 = .ok (.dup, 1) := by decide +kernel
theorem dX4_next_245 : decode cX4_next 245 = .ok (.getfield 160, 3) := by decide +kernel
theorem dX4_next_248 : decode cX4_next 248 = .ok (.iconst 1, 1) := by decide +kernel
theorem dX4_next_249 : decode cX4_next 249 = .ok (.iadd, 1) := by decide +kernel
theorem dX4_next_250 : decode cX4_next 250 = .ok (.putfield 160, 3) := by decide +kernel
theorem dX4_next_253 : decode cX4_next 253 = .ok (.goto (-68), 3) := by decide +kernel
theorem dX4_next_256 : decode cX4_next 256 = .ok (.aload_n 0, 1) := by decide +kernel
theorem dX4_next_257 : decode cX4_next 257 = .ok (.iconst 4, 1) := by decide +kernel
theorem dX4_next_258 : decode cX4_next 258 = .ok (.putfield 173, 3) := by decide +kernel
theorem dX4_next_261 : decode cX4_next 261 = .ok (.return_, 1) := by decide +kernel
theorem dX4_wrongHere_0 : decode cX4_wrongHere 0 = .ok (.aload_n 0, 1) := by decide +kernel
theorem dX4_wrongHere_1 : decode cX4_wrongHere 1 = .ok (.aload_n 0, 1) := by decide +kernel
theorem dX4_wrongHere_2 : decode cX4_wrongHere 2 = .ok (.getfield 192, 3) := by decide +kernel
theorem dX4_wrongHere_5 : decode cX4_wrongHere 5 = .ok (.ifCond .ge 10, 3) := by decide +kernel
theorem dX4_wrongHere_8 : decode cX4_wrongHere 8 = .ok (.aload_n 0, 1) := by decide +kernel
theorem dX4_wrongHere_9 : decode cX4_wrongHere 9 = .ok (.getfield 166, 3) := by decide +kernel
theorem dX4_wrongHere_12 : decode cX4_wrongHere 12 = .ok (.goto 7, 3) := by decide +kernel
theorem dX4_wrongHere_15 : decode cX4_wrongHere 15 = .ok (.aload_n 0, 1) := by decide +kernel
theorem dX4_wrongHere_16 : decode cX4_wrongHere 16 = .ok (.getfield 192, 3) := by decide +kernel
theorem dX4_wrongHere_19 : decode cX4_wrongHere 19 = .ok (.putfield 192, 3) := by decide +kernel
theorem dX4_wrongHere_22 : decode cX4_wrongHere 22 = .ok (.return_, 1) := by decide +kernel
theorem dX4_isWord_0 : decode cX4_isWord 0 = .ok (.aload_n 0, 1) := by decide +kernel
theorem dX4_isWord_1 : decode cX4_isWord 1 = .ok (.getfield 173, 3) := by decide +kernel
theorem dX4_isWord_4 : decode cX4_isWord 4 = .ok (.iconst 1, 1) := by decide +kernel
theorem dX4_isWord_5 : decode cX4_isWord 5 = .ok (.if_icmp .ne 16, 3) := by decide +kernel
theorem dX4_isWord_8 : decode cX4_isWord 8 = .ok (.aload_n 0, 1) := by decide +kernel
theorem dX4_isWord_9 : decode cX4_isWord 9 = .ok (.getfield 169, 3) := by decide +kernel
theorem dX4_isWord_12 : decode cX4_isWord 12 = .ok (.lload_n 1, 1) := by decide +kernel
theorem dX4_isWord_13 : decode cX4_isWord 13 = .ok (.lcmp, 1) := by decide +kernel
theorem dX4_isWord_14 : decode cX4_isWord 14 = .ok (.ifCond .ne 7, 3) := by decide +kernel
theorem dX4_isWord_17 : decode cX4_isWord 17 = .ok (.iconst 1, 1) := by decide +kernel
theorem dX4_isWord_18 : decode cX4_isWord 18 = .ok (.goto 4, 3) := by decide +kernel
theorem dX4_isWord_21 : decode cX4_isWord 21 = .ok (.iconst 0, 1) := by decide +kernel
theorem dX4_isWord_22 : decode cX4_isWord 22 = .ok (.ireturn, 1) := by decide +kernel
theorem dX4_kindHere_0 : decode cX4_kindHere 0 = .ok (.aload_n 0, 1) := by decide +kernel
theorem dX4_kindHere_1 : decode cX4_kindHere 1 = .ok (.ldc2_w 195, 3) := by decide +kernel
theorem dX4_kindHere_4 : decode cX4_kindHere 4 = .ok (.invokevirtual 197, 3) := by decide +kernel
theorem dX4_kindHere_7 : decode cX4_kindHere 7 = .ok (.ifCond .eq 7, 3) := by decide +kernel
theorem dX4_kindHere_10 : decode cX4_kindHere 10 = .ok (.iconst 0, 1) := by decide +kernel
theorem dX4_kindHere_11 : decode cX4_kindHere 11 = .ok (.goto 74, 3) := by decide +kernel
theorem dX4_kindHere_14 : decode cX4_kindHere 14 = .ok (.aload_n 0, 1) := by decide +kernel
theorem dX4_kindHere_15 : decode cX4_kindHere 15 = .ok (.ldc2_w 201, 3) := by decide +kernel
theorem dX4_kindHere_18 : decode cX4_kindHere 18 = .ok (.invokevirtual 197, 3) := by decide +kernel
theorem dX4_kindHere_21 : decode cX4_kindHere 21 = .ok (.ifCond .eq 7, 3) := by decide +kernel
theorem dX4_kindHere_24 : decode cX4_kindHere 24 = .ok (.iconst 1, 1) := by decide +kernel
theorem dX4_kindHere_25 : decode cX4_kindHere 25 = .ok (.goto 60, 3) := by decide +kernel
theorem dX4_kindHere_28 : decode cX4_kindHere 28 = .ok (.aload_n 0, 1) := by decide +kernel
theorem dX4_kindHere_29 : decode cX4_kindHere 29 = .ok (.ldc2_w 203, 3) := by decide +kernel
theorem dX4_kindHere_32 : decode cX4_kindHere 32 = .ok (.invokevirtual 197, 3) := by decide +kernel
theorem dX4_kindHere_35 : decode cX4_kindHere 35 = .ok (.ifCond .eq 7, 3) := by decide +kernel
theorem dX4_kindHere_38 : decode cX4_kindHere 38 = .ok (.iconst 2, 1) := by decide +kernel
theorem dX4_kindHere_39 : decode cX4_kindHere 39 = .ok (.goto 46, 3) := by decide +kernel
theorem dX4_kindHere_42 : decode cX4_kindHere 42 = .ok (.aload_n 0, 1) := by decide +kernel
theorem dX4_kindHere_43 : decode cX4_kindHere 43 = .ok (.ldc2_w 205, 3) := by decide +kernel
theorem dX4_kindHere_46 : decode cX4_kindHere 46 = .ok (.invokevirtual 197, 3) := by decide +kernel
theorem dX4_kindHere_49 : decode cX4_kindHere 49 = .ok (.ifCond .eq 7, 3) := by decide +kernel
theorem dX4_kindHere_52 : decode cX4_kindHere 52 = .ok (.iconst 3, 1) := by decide +kernel
theorem dX4_kindHere_53 : decode cX4_kindHere 53 = .ok (.goto 32, 3) := by decide +kernel
theorem dX4_kindHere_56 : decode cX4_kindHere 56 = .ok (.aload_n 0, 1) := by decide +kernel
theorem dX4_kindHere_57 : decode cX4_kindHere 57 = .ok (.ldc2_w 207, 3) := by decide +kernel
theorem dX4_kindHere_60 : decode cX4_kindHere 60 = .ok (.invokevirtual 197, 3) := by decide +kernel
theorem dX4_kindHere_63 : decode cX4_kindHere 63 = .ok (.ifCond .eq 7, 3) := by decide +kernel
theorem dX4_kindHere_66 : decode cX4_kindHere 66 = .ok (.iconst 4, 1) := by decide +kernel
theorem dX4_kindHere_67 : decode cX4_kindHere 67 = .ok (.goto 18, 3) := by decide +kernel
theorem dX4_kindHere_70 : decode cX4_kindHere 70 = .ok (.aload_n 0, 1) := by decide +kernel
theorem dX4_kindHere_71 : decode cX4_kindHere 71 = .ok (.ldc2_w 209, 3) := by decide +kernel
theorem dX4_kindHere_74 : decode cX4_kindHere 74 = .ok (.invokevirtual 197, 3) := by decide +kernel
theorem dX4_kindHere_77 : decode cX4_kindHere 77 = .ok (.ifCond .eq 7, 3) := by decide +kernel
theorem dX4_kindHere_80 : decode cX4_kindHere 80 = .ok (.iconst 5, 1) := by decide +kernel
theorem dX4_kindHere_81 : decode cX4_kindHere 81 = .ok (.goto 4, 3) := by decide +kernel
theorem dX4_kindHere_84 : decode cX4_kindHere 84 = .ok (.iconst (-1), 1) := by decide +kernel
theorem dX4_kindHere_85 : decode cX4_kindHere 85 = .ok (.ireturn, 1) := by decide +kernel
theorem dX4_cueHere_0 : decode cX4_cueHere 0 = .ok (.aload_n 0, 1) := by decide +kernel
theorem dX4_cueHere_1 : decode cX4_cueHere 1 = .ok (.ldc2_w 211, 3) := by decide +kernel
theorem dX4_cueHere_4 : decode cX4_cueHere 4 = .ok (.invokevirtual 197, 3) := by decide +kernel
theorem dX4_cueHere_7 : decode cX4_cueHere 7 = .ok (.ifCond .eq 7, 3) := by decide +kernel
theorem dX4_cueHere_10 : decode cX4_cueHere 10 = .ok (.iconst 0, 1) := by decide +kernel
theorem dX4_cueHere_11 : decode cX4_cueHere 11 = .ok (.goto 60, 3) := by decide +kernel
theorem dX4_cueHere_14 : decode cX4_cueHere 14 = .ok (.aload_n 0, 1) := by decide +kernel
theorem dX4_cueHere_15 : decode cX4_cueHere 15 = .ok (.ldc2_w 213, 3) := by decide +kernel
theorem dX4_cueHere_18 : decode cX4_cueHere 18 = .ok (.invokevirtual 197, 3) := by decide +kernel
theorem dX4_cueHere_21 : decode cX4_cueHere 21 = .ok (.ifCond .eq 7, 3) := by decide +kernel
theorem dX4_cueHere_24 : decode cX4_cueHere 24 = .ok (.iconst 1, 1) := by decide +kernel
theorem dX4_cueHere_25 : decode cX4_cueHere 25 = .ok (.goto 46, 3) := by decide +kernel
theorem dX4_cueHere_28 : decode cX4_cueHere 28 = .ok (.aload_n 0, 1) := by decide +kernel
theorem dX4_cueHere_29 : decode cX4_cueHere 29 = .ok (.ldc2_w 215, 3) := by decide +kernel
theorem dX4_cueHere_32 : decode cX4_cueHere 32 = .ok (.invokevirtual 197, 3) := by decide +kernel
theorem dX4_cueHere_35 : decode cX4_cueHere 35 = .ok (.ifCond .eq 7, 3) := by decide +kernel
theorem dX4_cueHere_38 : decode cX4_cueHere 38 = .ok (.iconst 2, 1) := by decide +kernel
theorem dX4_cueHere_39 : decode cX4_cueHere 39 = .ok (.goto 32, 3) := by decide +kernel
theorem dX4_cueHere_42 : decode cX4_cueHere 42 = .ok (.aload_n 0, 1) := by decide +kernel
theorem dX4_cueHere_43 : decode cX4_cueHere 43 = .ok (.ldc2_w 217, 3) := by decide +kernel
theorem dX4_cueHere_46 : decode cX4_cueHere 46 = .ok (.invokevirtual 197, 3) := by decide +kernel
theorem dX4_cueHere_49 : decode cX4_cueHere 49 = .ok (.ifCond .eq 7, 3) := by decide +kernel
theorem dX4_cueHere_52 : decode cX4_cueHere 52 = .ok (.iconst 3, 1) := by decide +kernel
theorem dX4_cueHere_53 : decode cX4_cueHere 53 = .ok (.goto 18, 3) := by decide +kernel
theorem dX4_cueHere_56 : decode cX4_cueHere 56 = .ok (.aload_n 0, 1) := by decide +kernel
theorem dX4_cueHere_57 : decode cX4_cueHere 57 = .ok (.ldc2_w 219, 3) := by decide +kernel
theorem dX4_cueHere_60 : decode cX4_cueHere 60 = .ok (.invokevirtual 197, 3) := by decide +kernel
theorem dX4_cueHere_63 : decode cX4_cueHere 63 = .ok (.ifCond .eq 7, 3) := by decide +kernel
theorem dX4_cueHere_66 : decode cX4_cueHere 66 = .ok (.iconst 4, 1) := by decide +kernel
theorem dX4_cueHere_67 : decode cX4_cueHere 67 = .ok (.goto 4, 3) := by decide +kernel
theorem dX4_cueHere_70 : decode cX4_cueHere 70 = .ok (.iconst (-1), 1) := by decide +kernel
theorem dX4_cueHere_71 : decode cX4_cueHere 71 = .ok (.ireturn, 1) := by decide +kernel
theorem dX4_numberHere_0 : decode cX4_numberHere 0 = .ok (.aload_n 0, 1) := by decide +kernel
theorem dX4_numberHere_1 : decode cX4_numberHere 1 = .ok (.getfield 169, 3) := by decide +kernel
theorem dX4_numberHere_4 : decode cX4_numberHere 4 = .ok (.l2i, 1) := by decide +kernel
theorem dX4_numberHere_5 : decode cX4_numberHere 5 = .ok (.istore_n 3, 1) := by decide +kernel
theorem dX4_numberHere_6 : decode cX4_numberHere 6 = .ok (.aload_n 0, 1) := by decide +kernel
theorem dX4_numberHere_7 : decode cX4_numberHere 7 = .ok (.getfield 173, 3) := by decide +kernel
theorem dX4_numberHere_10 : decode cX4_numberHere 10 = .ok (.iconst 2, 1) := by decide +kernel
theorem dX4_numberHere_11 : decode cX4_numberHere 11 = .ok (.if_icmp .ne 17, 3) := by decide +kernel
theorem dX4_numberHere_14 : decode cX4_numberHere 14 = .ok (.aload_n 0, 1) := by decide +kernel
theorem dX4_numberHere_15 : decode cX4_numberHere 15 = .ok (.getfield 169, 3) := by decide +kernel
theorem dX4_numberHere_18 : decode cX4_numberHere 18 = .ok (.iload_n 1, 1) := by decide +kernel
theorem dX4_numberHere_19 : decode cX4_numberHere 19 = .ok (.i2l, 1) := by decide +kernel
theorem dX4_numberHere_20 : decode cX4_numberHere 20 = .ok (.iload_n 2, 1) := by decide +kernel
theorem dX4_numberHere_21 : decode cX4_numberHere 21 = .ok (.i2l, 1) := by decide +kernel
theorem dX4_numberHere_22 : decode cX4_numberHere 22 = .ok (.invokestatic 46, 3) := by decide +kernel
theorem dX4_numberHere_25 : decode cX4_numberHere 25 = .ok (.ifCond .ne 9, 3) := by decide +kernel
theorem dX4_numberHere_28 : decode cX4_numberHere 28 = .ok (.aload_n 0, 1) := by decide +kernel
theorem dX4_numberHere_29 : decode cX4_numberHere 29 = .ok (.invokevirtual 221, 3) := by decide +kernel
theorem dX4_numberHere_32 : decode cX4_numberHere 32 = .ok (.iconst 0, 1) := by decide +kernel
theorem dX4_numberHere_33 : decode cX4_numberHere 33 = .ok (.ireturn, 1) := by decide +kernel
theorem dX4_numberHere_34 : decode cX4_numberHere 34 = .ok (.aload_n 0, 1) := by decide +kernel
theorem dX4_numberHere_35 : decode cX4_numberHere 35 = .ok (.invokevirtual 224, 3) := by decide +kernel
theorem dX4_numberHere_38 : decode cX4_numberHere 38 = .ok (.iload_n 3, 1) := by decide +kernel
theorem dX4_numberHere_39 : decode cX4_numberHere 39 = .ok (.ireturn, 1) := by decide +kernel
theorem dX4_personHere_0 : decode cX4_personHere 0 = .ok (.aload_n 0, 1) := by decide +kernel
theorem dX4_personHere_1 : decode cX4_personHere 1 = .ok (.getfield 7, 3) := by decide +kernel
theorem dX4_personHere_4 : decode cX4_personHere 4 = .ok (.iconst 0, 1) := by decide +kernel
theorem dX4_personHere_5 : decode cX4_personHere 5 = .ok (.iaload, 1) := by decide +kernel
theorem dX4_personHere_6 : decode cX4_personHere 6 = .ok (.bipush 8, 2) := by decide +kernel
theorem dX4_personHere_8 : decode cX4_personHere 8 = .ok (.if_icmp .ne 8, 3) := by decide +kernel
theorem dX4_personHere_11 : decode cX4_personHere 11 = .ok (.aload_n 0, 1) := by decide +kernel
theorem dX4_personHere_12 : decode cX4_personHere 12 = .ok (.invokevirtual 221, 3) := by decide +kernel
theorem dX4_personHere_15 : decode cX4_personHere 15 = .ok (.return_, 1) := by decide +kernel
theorem dX4_personHere_16 : decode cX4_personHere 16 = .ok (.aload_n 0, 1) := by decide +kernel
theorem dX4_personHere_17 : decode cX4_personHere 17 = .ok (.invokevirtual 224, 3) := by decide +kernel
theorem dX4_personHere_20 : decode cX4_personHere 20 = .ok (.aload_n 0, 1) := by decide +kernel
theorem dX4_personHere_21 : decode cX4_personHere 21 = .ok (.iload_n 1, 1) := by decide +kernel
theorem dX4_personHere_22 : decode cX4_personHere 22 = .ok (.invokevirtual 107, 3) := by decide +kernel
theorem dX4_personHere_25 : decode cX4_personHere 25 = .ok (.istore_n 2, 1) := by decide +kernel
theorem dX4_personHere_26 : decode cX4_personHere 26 = .ok (.aload_n 0, 1) := by decide +kernel
theorem dX4_personHere_27 : decode cX4_personHere 27 = .ok (.ldc2_w 227, 3) := by decide +kernel
theorem dX4_personHere_30 : decode cX4_personHere 30 = .ok (.invokevirtual 197, 3) := by decide +kernel
theorem dX4_personHere_33 : decode cX4_personHere 33 = .ok (.ifCond .eq 20, 3) := by decide +kernel
theorem dX4_personHere_36 : decode cX4_personHere 36 = .ok (.aload_n 0, 1) := by decide +kernel
theorem dX4_personHere_37 : decode cX4_personHere 37 = .ok (.invokevirtual 224, 3) := by decide +kernel
theorem dX4_personHere_40 : decode cX4_personHere 40 = .ok (.aload_n 0, 1) := by decide +kernel
theorem dX4_personHere_41 : decode cX4_personHere 41 = .ok (.iload_n 2, 1) := by decide +kernel
theorem dX4_personHere_42 : decode cX4_personHere 42 = .ok (.iconst 1, 1) := by decide +kernel
theorem dX4_personHere_43 : decode cX4_personHere 43 = .ok (.aload_n 0, 1) := by decide +kernel
theorem dX4_personHere_44 : decode cX4_personHere 44 = .ok (.iconst 0, 1) := by decide +kernel
theorem dX4_personHere_45 : decode cX4_personHere 45 = .ok (.bipush 99, 2) := by decide +kernel
theorem dX4_personHere_47 : decode cX4_personHere 47 = .ok (.invokevirtual 229, 3) := by decide +kernel
theorem dX4_personHere_50 : decode cX4_personHere 50 = .ok (.invokevirtual 73, 3) := by decide +kernel
theorem dX4_personHere_53 : decode cX4_personHere 53 = .ok (.return_, 1) := by decide +kernel
theorem dX4_cueItem_0 : decode cX4_cueItem 0 = .ok (.aload_n 0, 1) := by decide +kernel
theorem dX4_cueItem_1 : decode cX4_cueItem 1 = .ok (.invokevirtual 224, 3) := by decide +kernel
theorem dX4_cueItem_4 : decode cX4_cueItem 4 = .ok (.aload_n 0, 1) := by decide +kernel
theorem dX4_cueItem_5 : decode cX4_cueItem 5 = .ok (.iconst 0, 1) := by decide +kernel
theorem dX4_cueItem_6 : decode cX4_cueItem 6 = .ok (.bipush 15, 2) := by decide +kernel
theorem dX4_cueItem_8 : decode cX4_cueItem 8 = .ok (.invokevirtual 229, 3) := by decide +kernel
theorem dX4_cueItem_11 : decode cX4_cueItem 11 = .ok (.istore_n 1, 1) := by decide +kernel
theorem dX4_cueItem_12 : decode cX4_cueItem 12 = .ok (.aload_n 0, 1) := by decide +kernel
theorem dX4_cueItem_13 : decode cX4_cueItem 13 = .ok (.getfield 192, 3) := by decide +kernel
theorem dX4_cueItem_16 : decode cX4_cueItem 16 = .ok (.ifCond .ge 10, 3) := by decide +kernel
theorem dX4_cueItem_19 : decode cX4_cueItem 19 = .ok (.aload_n 0, 1) := by decide +kernel
theorem dX4_cueItem_20 : decode cX4_cueItem 20 = .ok (.invokevirtual 232, 3) := by decide +kernel
theorem dX4_cueItem_23 : decode cX4_cueItem 23 = .ok (.goto 4, 3) := by decide +kernel
theorem dX4_cueItem_26 : decode cX4_cueItem 26 = .ok (.iconst 0, 1) := by decide +kernel
theorem dX4_cueItem_27 : decode cX4_cueItem 27 = .ok (.istore_n 2, 1) := by decide +kernel
theorem dX4_cueItem_28 : decode cX4_cueItem 28 = .ok (.aload_n 0, 1) := by decide +kernel
theorem dX4_cueItem_29 : decode cX4_cueItem 29 = .ok (.getfield 192, 3) := by decide +kernel
theorem dX4_cueItem_32 : decode cX4_cueItem 32 = .ok (.ifCond .ge 11, 3) := by decide +kernel
theorem dX4_cueItem_35 : decode cX4_cueItem 35 = .ok (.iload_n 2, 1) := by decide +kernel
theorem dX4_cueItem_36 : decode cX4_cueItem 36 = .ok (.ifCond .ge 7, 3) := by decide +kernel
theorem dX4_cueItem_39 : decode cX4_cueItem 39 = .ok (.aload_n 0, 1) := by decide +kernel
theorem dX4_cueItem_40 : decode cX4_cueItem 40 = .ok (.invokevirtual 221, 3) := by decide +kernel
theorem dX4_cueItem_43 : decode cX4_cueItem 43 = .ok (.aload_n 0, 1) := by decide +kernel
theorem dX4_cueItem_44 : decode cX4_cueItem 44 = .ok (.getfield 192, 3) := by decide +kernel
theorem dX4_cueItem_47 : decode cX4_cueItem 47 = .ok (.ifCond .ge 16, 3) := by decide +kernel
theorem dX4_cueItem_50 : decode cX4_cueItem 50 = .ok (.aload_n 0, 1) := by decide +kernel
theorem dX4_cueItem_51 : decode cX4_cueItem 51 = .ok (.getfield 7, 3) := by decide +kernel
theorem dX4_cueItem_54 : decode cX4_cueItem 54 = .ok (.iconst 3, 1) := by decide +kernel
theorem dX4_cueItem_55 : decode cX4_cueItem 55 = .ok (.iload_n 1, 1) := by decide +kernel
theorem dX4_cueItem_56 : decode cX4_cueItem 56 = .ok (.iadd, 1) := by decide +kernel
theorem dX4_cueItem_57 : decode cX4_cueItem 57 = .ok (.iload_n 2, 1) := by decide +kernel
theorem dX4_cueItem_58 : decode cX4_cueItem 58 = .ok (.iastore, 1) := by decide +kernel
theorem dX4_cueItem_59 : decode cX4_cueItem 59 = .ok (.aload_n 0, 1) := by decide +kernel
theorem dX4_cueItem_60 : decode cX4_cueItem 60 = .ok (.invokevirtual 224, 3) := by decide +kernel
theorem dX4_cueItem_63 : decode cX4_cueItem 63 = .ok (.return_, 1) := by decide +kernel
theorem dX4_tenseItem_0 : decode cX4_tenseItem 0 = .ok (.aload_n 0, 1) := by decide +kernel
theorem dX4_tenseItem_1 : decode cX4_tenseItem 1 = .ok (.invokevirtual 224, 3) := by decide +kernel
theorem dX4_tenseItem_4 : decode cX4_tenseItem 4 = .ok (.aload_n 0, 1) := by decide +kernel
theorem dX4_tenseItem_5 : decode cX4_tenseItem 5 = .ok (.iconst 0, 1) := by decide +kernel
theorem dX4_tenseItem_6 : decode cX4_tenseItem 6 = .ok (.bipush 15, 2) := by decide +kernel
theorem dX4_tenseItem_8 : decode cX4_tenseItem 8 = .ok (.invokevirtual 229, 3) := by decide +kernel
theorem dX4_tenseItem_11 : decode cX4_tenseItem 11 = .ok (.istore_n 1, 1) := by decide +kernel
theorem dX4_tenseItem_12 : decode cX4_tenseItem 12 = .ok (.aload_n 0, 1) := by decide +kernel
theorem dX4_tenseItem_13 : decode cX4_tenseItem 13 = .ok (.getfield 192, 3) := by decide +kernel
theorem dX4_tenseItem_16 : decode cX4_tenseItem 16 = .ok (.ifCond .ge 13, 3) := by decide +kernel
theorem dX4_tenseItem_19 : decode cX4_tenseItem 19 = .ok (.aload_n 0, 1) := by decide +kernel
theorem dX4_tenseItem_20 : decode cX4_tenseItem 20 = .ok (.iconst 0, 1) := by decide +kernel
theorem dX4_tenseItem_21 : decode cX4_tenseItem 21 = .ok (.bipush 20, 2) := by decide +kernel
theorem dX4_tenseItem_23 : decode cX4_tenseItem 23 = .ok (.invokevirtual 229, 3) := by decide +kernel
theorem dX4_tenseItem_26 : decode cX4_tenseItem 26 = .ok (.goto 4, 3) := by decide +kernel
theorem dX4_tenseItem_29 : decode cX4_tenseItem 29 = .ok (.iconst 0, 1) := by decide +kernel
theorem dX4_tenseItem_30 : decode cX4_tenseItem 30 = .ok (.istore_n 2, 1) := by decide +kernel
theorem dX4_tenseItem_31 : decode cX4_tenseItem 31 = .ok (.aload_n 0, 1) := by decide +kernel
theorem dX4_tenseItem_32 : decode cX4_tenseItem 32 = .ok (.getfield 192, 3) := by decide +kernel
theorem dX4_tenseItem_35 : decode cX4_tenseItem 35 = .ok (.ifCond .ge 13, 3) := by decide +kernel
theorem dX4_tenseItem_38 : decode cX4_tenseItem 38 = .ok (.aload_n 0, 1) := by decide +kernel
theorem dX4_tenseItem_39 : decode cX4_tenseItem 39 = .ok (.getfield 7, 3) := by decide +kernel
theorem dX4_tenseItem_42 : decode cX4_tenseItem 42 = .ok (.bipush 19, 2) := by decide +kernel
theorem dX4_tenseItem_44 : decode cX4_tenseItem 44 = .ok (.iload_n 1, 1) := by decide +kernel
theorem dX4_tenseItem_45 : decode cX4_tenseItem 45 = .ok (.iadd, 1) := by decide +kernel
theorem dX4_tenseItem_46 : decode cX4_tenseItem 46 = .ok (.iload_n 2, 1) := by decide +kernel
theorem dX4_tenseItem_47 : decode cX4_tenseItem 47 = .ok (.iastore, 1) := by decide +kernel
theorem dX4_tenseItem_48 : decode cX4_tenseItem 48 = .ok (.return_, 1) := by decide +kernel
theorem dX4_swapItem_0 : decode cX4_swapItem 0 = .ok (.aload_n 0, 1) := by decide +kernel
theorem dX4_swapItem_1 : decode cX4_swapItem 1 = .ok (.invokevirtual 224, 3) := by decide +kernel
theorem dX4_swapItem_4 : decode cX4_swapItem 4 = .ok (.aload_n 0, 1) := by decide +kernel
theorem dX4_swapItem_5 : decode cX4_swapItem 5 = .ok (.iconst 0, 1) := by decide +kernel
theorem dX4_swapItem_6 : decode cX4_swapItem 6 = .ok (.aload_n 0, 1) := by decide +kernel
theorem dX4_swapItem_7 : decode cX4_swapItem 7 = .ok (.getfield 7, 3) := by decide +kernel
theorem dX4_swapItem_10 : decode cX4_swapItem 10 = .ok (.iconst 0, 1) := by decide +kernel
theorem dX4_swapItem_11 : decode cX4_swapItem 11 = .ok (.iaload, 1) := by decide +kernel
theorem dX4_swapItem_12 : decode cX4_swapItem 12 = .ok (.iconst 1, 1) := by decide +kernel
theorem dX4_swapItem_13 : decode cX4_swapItem 13 = .ok (.isub, 1) := by decide +kernel
theorem dX4_swapItem_14 : decode cX4_swapItem 14 = .ok (.invokevirtual 229, 3) := by decide +kernel
theorem dX4_swapItem_17 : decode cX4_swapItem 17 = .ok (.istore_n 1, 1) := by decide +kernel
theorem dX4_swapItem_18 : decode cX4_swapItem 18 = .ok (.aload_n 0, 1) := by decide +kernel
theorem dX4_swapItem_19 : decode cX4_swapItem 19 = .ok (.getfield 192, 3) := by decide +kernel
theorem dX4_swapItem_22 : decode cX4_swapItem 22 = .ok (.ifCond .ge 25, 3) := by decide +kernel
theorem dX4_swapItem_25 : decode cX4_swapItem 25 = .ok (.aload_n 0, 1) := by decide +kernel
theorem dX4_swapItem_26 : decode cX4_swapItem 26 = .ok (.getfield 173, 3) := by decide +kernel
theorem dX4_swapItem_29 : decode cX4_swapItem 29 = .ok (.iconst 2, 1) := by decide +kernel
theorem dX4_swapItem_30 : decode cX4_swapItem 30 = .ok (.if_icmp .ne 17, 3) := by decide +kernel
theorem dX4_swapItem_33 : decode cX4_swapItem 33 = .ok (.aload_n 0, 1) := by decide +kernel
theorem dX4_swapItem_34 : decode cX4_swapItem 34 = .ok (.getfield 169, 3) := by decide +kernel
theorem dX4_swapItem_37 : decode cX4_swapItem 37 = .ok (.iload_n 1, 1) := by decide +kernel
theorem dX4_swapItem_38 : decode cX4_swapItem 38 = .ok (.i2l, 1) := by decide +kernel
theorem dX4_swapItem_39 : decode cX4_swapItem 39 = .ok (.lcmp, 1) := by decide +kernel
theorem dX4_swapItem_40 : decode cX4_swapItem 40 = .ok (.ifCond .ne 7, 3) := by decide +kernel
theorem dX4_swapItem_43 : decode cX4_swapItem 43 = .ok (.aload_n 0, 1) := by decide +kernel
theorem dX4_swapItem_44 : decode cX4_swapItem 44 = .ok (.invokevirtual 221, 3) := by decide +kernel
theorem dX4_swapItem_47 : decode cX4_swapItem 47 = .ok (.aload_n 0, 1) := by decide +kernel
theorem dX4_swapItem_48 : decode cX4_swapItem 48 = .ok (.getfield 192, 3) := by decide +kernel
theorem dX4_swapItem_51 : decode cX4_swapItem 51 = .ok (.ifCond .ge 19, 3) := by decide +kernel
theorem dX4_swapItem_54 : decode cX4_swapItem 54 = .ok (.aload_n 0, 1) := by decide +kernel
theorem dX4_swapItem_55 : decode cX4_swapItem 55 = .ok (.iconst 0, 1) := by decide +kernel
theorem dX4_swapItem_56 : decode cX4_swapItem 56 = .ok (.aload_n 0, 1) := by decide +kernel
theorem dX4_swapItem_57 : decode cX4_swapItem 57 = .ok (.getfield 7, 3) := by decide +kernel
theorem dX4_swapItem_60 : decode cX4_swapItem 60 = .ok (.iconst 0, 1) := by decide +kernel
theorem dX4_swapItem_61 : decode cX4_swapItem 61 = .ok (.iaload, 1) := by decide +kernel
theorem dX4_swapItem_62 : decode cX4_swapItem 62 = .ok (.iconst 1, 1) := by decide +kernel
theorem dX4_swapItem_63 : decode cX4_swapItem 63 = .ok (.isub, 1) := by decide +kernel
theorem dX4_swapItem_64 : decode cX4_swapItem 64 = .ok (.invokevirtual 229, 3) := by decide +kernel
theorem dX4_swapItem_67 : decode cX4_swapItem 67 = .ok (.goto 4, 3) := by decide +kernel
theorem dX4_swapItem_70 : decode cX4_swapItem 70 = .ok (.iconst 0, 1) := by decide +kernel
theorem dX4_swapItem_71 : decode cX4_swapItem 71 = .ok (.istore_n 2, 1) := by decide +kernel
theorem dX4_swapItem_72 : decode cX4_swapItem 72 = .ok (.aload_n 0, 1) := by decide +kernel
theorem dX4_swapItem_73 : decode cX4_swapItem 73 = .ok (.getfield 192, 3) := by decide +kernel
theorem dX4_swapItem_76 : decode cX4_swapItem 76 = .ok (.ifCond .ge 9, 3) := by decide +kernel
theorem dX4_swapItem_79 : decode cX4_swapItem 79 = .ok (.aload_n 0, 1) := by decide +kernel
theorem dX4_swapItem_80 : decode cX4_swapItem 80 = .ok (.iload_n 1, 1) := by decide +kernel
theorem dX4_swapItem_81 : decode cX4_swapItem 81 = .ok (.iload_n 2, 1) := by decide +kernel
theorem dX4_swapItem_82 : decode cX4_swapItem 82 = .ok (.invokevirtual 119, 3) := by decide +kernel
theorem dX4_swapItem_85 : decode cX4_swapItem 85 = .ok (.return_, 1) := by decide +kernel
theorem dX4_item_0 : decode cX4_item 0 = .ok (.aload_n 0, 1) := by decide +kernel
theorem dX4_item_1 : decode cX4_item 1 = .ok (.invokevirtual 236, 3) := by decide +kernel
theorem dX4_item_4 : decode cX4_item 4 = .ok (.istore_n 1, 1) := by decide +kernel
theorem dX4_item_5 : decode cX4_item 5 = .ok (.iload_n 1, 1) := by decide +kernel
theorem dX4_item_6 : decode cX4_item 6 = .ok (.ifCond .lt 11, 3) := by decide +kernel
theorem dX4_item_9 : decode cX4_item 9 = .ok (.aload_n 0, 1) := by decide +kernel
theorem dX4_item_10 : decode cX4_item 10 = .ok (.iload_n 1, 1) := by decide +kernel
theorem dX4_item_11 : decode cX4_item 11 = .ok (.invokevirtual 239, 3) := by decide +kernel
theorem dX4_item_14 : decode cX4_item 14 = .ok (.goto 58, 3) := by decide +kernel
theorem dX4_item_17 : decode cX4_item 17 = .ok (.aload_n 0, 1) := by decide +kernel
theorem dX4_item_18 : decode cX4_item 18 = .ok (.ldc2_w 242, 3) := by decide +kernel
theorem dX4_item_21 : decode cX4_item 21 = .ok (.invokevirtual 197, 3) := by decide +kernel
theorem dX4_item_24 : decode cX4_item 24 = .ok (.ifCond .eq 10, 3) := by decide +kernel
theorem dX4_item_27 : decode cX4_item 27 = .ok (.aload_n 0, 1) := by decide +kernel
theorem dX4_item_28 : decode cX4_item 28 = .ok (.invokevirtual 244, 3) := by decide +kernel
theorem dX4_item_31 : decode cX4_item 31 = .ok (.goto 41, 3) := by decide +kernel
theorem dX4_item_34 : decode cX4_item 34 = .ok (.aload_n 0, 1) := by decide +kernel
theorem dX4_item_35 : decode cX4_item 35 = .ok (.ldc2_w 247, 3) := by decide +kernel
theorem dX4_item_38 : decode cX4_item 38 = .ok (.invokevirtual 197, 3) := by decide +kernel
theorem dX4_item_41 : decode cX4_item 41 = .ok (.ifCond .eq 10, 3) := by decide +kernel
theorem dX4_item_44 : decode cX4_item 44 = .ok (.aload_n 0, 1) := by decide +kernel
theorem dX4_item_45 : decode cX4_item 45 = .ok (.invokevirtual 249, 3) := by decide +kernel
theorem dX4_item_48 : decode cX4_item 48 = .ok (.goto 24, 3) := by decide +kernel
theorem dX4_item_51 : decode cX4_item 51 = .ok (.aload_n 0, 1) := by decide +kernel
theorem dX4_item_52 : decode cX4_item 52 = .ok (.ldc2_w 252, 3) := by decide +kernel
theorem dX4_item_55 : decode cX4_item 55 = .ok (.invokevirtual 197, 3) := by decide +kernel
theorem dX4_item_58 : decode cX4_item 58 = .ok (.ifCond .eq 10, 3) := by decide +kernel
theorem dX4_item_61 : decode cX4_item 61 = .ok (.aload_n 0, 1) := by decide +kernel
theorem dX4_item_62 : decode cX4_item 62 = .ok (.invokevirtual 254, 3) := by decide +kernel
theorem dX4_item_65 : decode cX4_item 65 = .ok (.goto 7, 3) := by decide +kernel
theorem dX4_item_68 : decode cX4_item 68 = .ok (.aload_n 0, 1) := by decide +kernel
theorem dX4_item_69 : decode cX4_item 69 = .ok (.invokevirtual 221, 3) := by decide +kernel
theorem dX4_item_72 : decode cX4_item 72 = .ok (.return_, 1) := by decide +kernel
theorem dX4_items_0 : decode cX4_items 0 = .ok (.aload_n 0, 1) := by decide +kernel
theorem dX4_items_1 : decode cX4_items 1 = .ok (.iconst 0, 1) := by decide +kernel
theorem dX4_items_2 : decode cX4_items 2 = .ok (.putfield 160, 3) := by decide +kernel
theorem dX4_items_5 : decode cX4_items 5 = .ok (.aload_n 0, 1) := by decide +kernel
theorem dX4_items_6 : decode cX4_items 6 = .ok (.iconst (-1), 1) := by decide +kernel
theorem dX4_items_7 : decode cX4_items 7 = .ok (.putfield 192, 3) := by decide +kernel
theorem dX4_items_10 : decode cX4_items 10 = .ok (.aload_n 0, 1) := by decide +kernel
theorem dX4_items_11 : decode cX4_items 11 = .ok (.invokevirtual 224, 3) := by decide +kernel
theorem dX4_items_14 : decode cX4_items 14 = .ok (.aload_n 0, 1) := by decide +kernel
theorem dX4_items_15 : decode cX4_items 15 = .ok (.invokevirtual 257, 3) := by decide +kernel
theorem dX4_items_18 : decode cX4_items 18 = .ok (.iconst 1, 1) := by decide +kernel
theorem dX4_items_19 : decode cX4_items 19 = .ok (.istore_n 1, 1) := by decide +kernel
theorem dX4_items_20 : decode cX4_items 20 = .ok (.aload_n 0, 1) := by decide +kernel
theorem dX4_items_21 : decode cX4_items 21 = .ok (.getfield 192, 3) := by decide +kernel
theorem dX4_items_24 : decode cX4_items 24 = .ok (.ifCond .ge 25, 3) := by decide +kernel
theorem dX4_items_27 : decode cX4_items 27 = .ok (.aload_n 0, 1) := by decide +kernel
theorem dX4_items_28 : decode cX4_items 28 = .ok (.getfield 173, 3) := by decide +kernel
theorem dX4_items_31 : decode cX4_items 31 = .ok (.iconst 3, 1) := by decide +kernel
theorem dX4_items_32 : decode cX4_items 32 = .ok (.if_icmp .ne 17, 3) := by decide +kernel
theorem dX4_items_35 : decode cX4_items 35 = .ok (.aload_n 0, 1) := by decide +kernel
theorem dX4_items_36 : decode cX4_items 36 = .ok (.invokevirtual 224, 3) := by decide +kernel
theorem dX4_items_39 : decode cX4_items 39 = .ok (.aload_n 0, 1) := by decide +kernel
theorem dX4_items_40 : decode cX4_items 40 = .ok (.invokevirtual 257, 3) := by decide +kernel
theorem dX4_items_43 : decode cX4_items 43 = .ok (.iinc 1 1, 3) := by decide +kernel
theorem dX4_items_46 : decode cX4_items 46 = .ok (.goto (-26), 3) := by decide +kernel
theorem dX4_items_49 : decode cX4_items 49 = .ok (.aload_n 0, 1) := by decide +kernel
theorem dX4_items_50 : decode cX4_items 50 = .ok (.getfield 192, 3) := by decide +kernel
theorem dX4_items_53 : decode cX4_items 53 = .ok (.ifCond .ge 14, 3) := by decide +kernel
theorem dX4_items_56 : decode cX4_items 56 = .ok (.aload_n 0, 1) := by decide +kernel
theorem dX4_items_57 : decode cX4_items 57 = .ok (.getfield 173, 3) := by decide +kernel
theorem dX4_items_60 : decode cX4_items 60 = .ok (.ifCond .eq 7, 3) := by decide +kernel
theorem dX4_items_63 : decode cX4_items 63 = .ok (.aload_n 0, 1) := by decide +kernel
theorem dX4_items_64 : decode cX4_items 64 = .ok (.invokevirtual 221, 3) := by decide +kernel
theorem dX4_items_67 : decode cX4_items 67 = .ok (.iload_n 1, 1) := by decide +kernel
theorem dX4_items_68 : decode cX4_items 68 = .ok (.ireturn, 1) := by decide +kernel
theorem dX4_evening_0 : decode cX4_evening 0 = .ok (.aload_n 0, 1) := by decide +kernel
theorem dX4_evening_1 : decode cX4_evening 1 = .ok (.getfield 7, 3) := by decide +kernel
theorem dX4_evening_4 : decode cX4_evening 4 = .ok (.aload_n 0, 1) := by decide +kernel
theorem dX4_evening_5 : decode cX4_evening 5 = .ok (.getfield 13, 3) := by decide +kernel
theorem dX4_evening_8 : decode cX4_evening 8 = .ok (.invokestatic 129, 3) := by decide +kernel
theorem dX4_evening_11 : decode cX4_evening 11 = .ok (.aload_n 0, 1) := by decide +kernel
theorem dX4_evening_12 : decode cX4_evening 12 = .ok (.invokevirtual 260, 3) := by decide +kernel
theorem dX4_evening_15 : decode cX4_evening 15 = .ok (.istore_n 1, 1) := by decide +kernel
theorem dX4_evening_16 : decode cX4_evening 16 = .ok (.aload_n 0, 1) := by decide +kernel
theorem dX4_evening_17 : decode cX4_evening 17 = .ok (.iconst 0, 1) := by decide +kernel
theorem dX4_evening_18 : decode cX4_evening 18 = .ok (.putfield 156, 3) := by decide +kernel
theorem dX4_evening_21 : decode cX4_evening 21 = .ok (.aload_n 0, 1) := by decide +kernel
theorem dX4_evening_22 : decode cX4_evening 22 = .ok (.getfield 192, 3) := by decide +kernel
theorem dX4_evening_25 : decode cX4_evening 25 = .ok (.ifCond .lt 21, 3) := by decide +kernel
theorem dX4_evening_28 : decode cX4_evening 28 = .ok (.aload_n 0, 1) := by decide +kernel
theorem dX4_evening_29 : decode cX4_evening 29 = .ok (.getfield 13, 3) := by decide +kernel
theorem dX4_evening_32 : decode cX4_evening 32 = .ok (.aload_n 0, 1) := by decide +kernel
theorem dX4_evening_33 : decode cX4_evening 33 = .ok (.getfield 7, 3) := by decide +kernel
theorem dX4_evening_36 : decode cX4_evening 36 = .ok (.invokestatic 129, 3) := by decide +kernel
theorem dX4_evening_39 : decode cX4_evening 39 = .ok (.iconst (-1), 1) := by decide +kernel
theorem dX4_evening_40 : decode cX4_evening 40 = .ok (.aload_n 0, 1) := by decide +kernel
theorem dX4_evening_41 : decode cX4_evening 41 = .ok (.getfield 192, 3) := by decide +kernel
theorem dX4_evening_44 : decode cX4_evening 44 = .ok (.isub, 1) := by decide +kernel
theorem dX4_evening_45 : decode cX4_evening 45 = .ok (.ireturn, 1) := by decide +kernel
theorem dX4_evening_46 : decode cX4_evening 46 = .ok (.iload_n 1, 1) := by decide +kernel
theorem dX4_evening_47 : decode cX4_evening 47 = .ok (.ireturn, 1) := by decide +kernel
theorem dX4_isSheet_0 : decode cX4_isSheet 0 = .ok (.iload_n 0, 1) := by decide +kernel
theorem dX4_isSheet_1 : decode cX4_isSheet 1 = .ok (.i2l, 1) := by decide +kernel
theorem dX4_isSheet_2 : decode cX4_isSheet 2 = .ok (.lconst 0, 1) := by decide +kernel
theorem dX4_isSheet_3 : decode cX4_isSheet 3 = .ok (.ldc2_w 263, 3) := by decide +kernel
theorem dX4_isSheet_6 : decode cX4_isSheet 6 = .ok (.invokestatic 46, 3) := by decide +kernel
theorem dX4_isSheet_9 : decode cX4_isSheet 9 = .ok (.ireturn, 1) := by decide +kernel
theorem dX4_sheet_0 : decode cX4_sheet 0 = .ok (.iload_n 1, 1) := by decide +kernel
theorem dX4_sheet_1 : decode cX4_sheet 1 = .ok (.invokestatic 265, 3) := by decide +kernel
theorem dX4_sheet_4 : decode cX4_sheet 4 = .ok (.ifCond .eq 25, 3) := by decide +kernel
theorem dX4_sheet_7 : decode cX4_sheet 7 = .ok (.iload_n 2, 1) := by decide +kernel
theorem dX4_sheet_8 : decode cX4_sheet 8 = .ok (.ifCond .eq 27, 3) := by decide +kernel
theorem dX4_sheet_11 : decode cX4_sheet 11 = .ok (.iload_n 2, 1) := by decide +kernel
theorem dX4_sheet_12 : decode cX4_sheet 12 = .ok (.bipush 8, 2) := by decide +kernel
theorem dX4_sheet_14 : decode cX4_sheet 14 = .ok (.if_icmp .eq 21, 3) := by decide +kernel
theorem dX4_sheet_17 : decode cX4_sheet 17 = .ok (.iload_n 2, 1) := by decide +kernel
theorem dX4_sheet_18 : decode cX4_sheet 18 = .ok (.bipush 16, 2) := by decide +kernel
theorem dX4_sheet_20 : decode cX4_sheet 20 = .ok (.if_icmp .eq 15, 3) := by decide +kernel
theorem dX4_sheet_23 : decode cX4_sheet 23 = .ok (.iload_n 2, 1) := by decide +kernel
theorem dX4_sheet_24 : decode cX4_sheet 24 = .ok (.bipush 64, 2) := by decide +kernel
theorem dX4_sheet_26 : decode cX4_sheet 26 = .ok (.if_icmp .eq 9, 3) := by decide +kernel
theorem dX4_sheet_29 : decode cX4_sheet 29 = .ok (.aload_n 0, 1) := by decide +kernel
theorem dX4_sheet_30 : decode cX4_sheet 30 = .ok (.iconst 0, 1) := by decide +kernel
theorem dX4_sheet_31 : decode cX4_sheet 31 = .ok (.invokevirtual 92, 3) := by decide +kernel
theorem dX4_sheet_34 : decode cX4_sheet 34 = .ok (.ireturn, 1) := by decide +kernel
theorem dX4_sheet_35 : decode cX4_sheet 35 = .ok (.iload_n 3, 1) := by decide +kernel
theorem dX4_sheet_36 : decode cX4_sheet 36 = .ok (.ifCond .ge 10, 3) := by decide +kernel
theorem dX4_sheet_39 : decode cX4_sheet 39 = .ok (.aload_n 0, 1) := by decide +kernel
theorem dX4_sheet_40 : decode cX4_sheet 40 = .ok (.bipush 6, 2) := by decide +kernel
theorem dX4_sheet_42 : decode cX4_sheet 42 = .ok (.invokevirtual 92, 3) := by decide +kernel
theorem dX4_sheet_45 : decode cX4_sheet 45 = .ok (.ireturn, 1) := by decide +kernel
theorem dX4_sheet_46 : decode cX4_sheet 46 = .ok (.iload_n 3, 1) := by decide +kernel
theorem dX4_sheet_47 : decode cX4_sheet 47 = .ok (.bipush 40, 2) := by decide +kernel
theorem dX4_sheet_49 : decode cX4_sheet 49 = .ok (.if_icmp .le 9, 3) := by decide +kernel
theorem dX4_sheet_52 : decode cX4_sheet 52 = .ok (.aload_n 0, 1) := by decide +kernel
theorem dX4_sheet_53 : decode cX4_sheet 53 = .ok (.iconst 0, 1) := by decide +kernel
theorem dX4_sheet_54 : decode cX4_sheet 54 = .ok (.invokevirtual 92, 3) := by decide +kernel
theorem dX4_sheet_57 : decode cX4_sheet 57 = .ok (.ireturn, 1) := by decide +kernel
theorem dX4_sheet_58 : decode cX4_sheet 58 = .ok (.aload_n 0, 1) := by decide +kernel
theorem dX4_sheet_59 : decode cX4_sheet 59 = .ok (.getfield 32, 3) := by decide +kernel
theorem dX4_sheet_62 : decode cX4_sheet 62 = .ok (.iload_n 1, 1) := by decide +kernel
theorem dX4_sheet_63 : decode cX4_sheet 63 = .ok (.iload_n 2, 1) := by decide +kernel
theorem dX4_sheet_64 : decode cX4_sheet 64 = .ok (.iastore, 1) := by decide +kernel
theorem dX4_sheet_65 : decode cX4_sheet 65 = .ok (.aload_n 0, 1) := by decide +kernel
theorem dX4_sheet_66 : decode cX4_sheet 66 = .ok (.getfield 35, 3) := by decide +kernel
theorem dX4_sheet_69 : decode cX4_sheet 69 = .ok (.iload_n 1, 1) := by decide +kernel
theorem dX4_sheet_70 : decode cX4_sheet 70 = .ok (.iload_n 2, 1) := by decide +kernel
theorem dX4_sheet_71 : decode cX4_sheet 71 = .ok (.ifCond .ne 7, 3) := by decide +kernel
theorem dX4_sheet_74 : decode cX4_sheet 74 = .ok (.iconst 0, 1) := by decide +kernel
theorem dX4_sheet_75 : decode cX4_sheet 75 = .ok (.goto 4, 3) := by decide +kernel
theorem dX4_sheet_78 : decode cX4_sheet 78 = .ok (.iload_n 3, 1) := by decide +kernel
theorem dX4_sheet_79 : decode cX4_sheet 79 = .ok (.iastore, 1) := by decide +kernel
theorem dX4_sheet_80 : decode cX4_sheet 80 = .ok (.iconst 0, 1) := by decide +kernel
theorem dX4_sheet_81 : decode cX4_sheet 81 = .ok (.istore 4, 2) := by decide +kernel
theorem dX4_sheet_83 : decode cX4_sheet 83 = .ok (.iload 4, 2) := by decide +kernel
theorem dX4_sheet_85 : decode cX4_sheet 85 = .ok (.bipush 40, 2) := by decide +kernel
theorem dX4_sheet_87 : decode cX4_sheet 87 = .ok (.if_icmp .ge 22, 3) := by decide +kernel
theorem dX4_sheet_90 : decode cX4_sheet 90 = .ok (.aload_n 0, 1) := by decide +kernel
theorem dX4_sheet_91 : decode cX4_sheet 91 = .ok (.getfield 38, 3) := by decide +kernel
theorem dX4_sheet_94 : decode cX4_sheet 94 = .ok (.bipush 40, 2) := by decide +kernel
theorem dX4_sheet_96 : decode cX4_sheet 96 = .ok (.iload_n 1, 1) := by decide +kernel
theorem dX4_sheet_97 : decode cX4_sheet 97 = .ok (.imul, 1) := by decide +kernel
theorem dX4_sheet_98 : decode cX4_sheet 98 = .ok (.iload 4, 2) := by decide +kernel
theorem dX4_sheet_100 : decode cX4_sheet 100 = .ok (.iadd, 1) := by decide +kernel
theorem dX4_sheet_101 : decode cX4_sheet 101 = .ok (.lconst 0, 1) := by decide +kernel
theorem dX4_sheet_102 : decode cX4_sheet 102 = .ok (.lastore, 1) := by decide +kernel
theorem dX4_sheet_103 : decode cX4_sheet 103 = .ok (.iinc 4 1, 3) := by decide +kernel
theorem dX4_sheet_106 : decode cX4_sheet 106 = .ok (.goto (-23), 3) := by decide +kernel
theorem dX4_sheet_109 : decode cX4_sheet 109 = .ok (.aload_n 0, 1) := by decide +kernel
theorem dX4_sheet_110 : decode cX4_sheet 110 = .ok (.getfield 35, 3) := by decide +kernel
theorem dX4_sheet_113 : decode cX4_sheet 113 = .ok (.iload_n 1, 1) := by decide +kernel
theorem dX4_sheet_114 : decode cX4_sheet 114 = .ok (.iaload, 1) := by decide +kernel
theorem dX4_sheet_115 : decode cX4_sheet 115 = .ok (.ireturn, 1) := by decide +kernel
theorem dX4_whyNone_0 : decode cX4_whyNone 0 = .ok (.iload_n 1, 1) := by decide +kernel
theorem dX4_whyNone_1 : decode cX4_whyNone 1 = .ok (.invokestatic 265, 3) := by decide +kernel
theorem dX4_whyNone_4 : decode cX4_whyNone 4 = .ok (.ifCond .ne 7, 3) := by decide +kernel
theorem dX4_whyNone_7 : decode cX4_whyNone 7 = .ok (.iconst 0, 1) := by decide +kernel
theorem dX4_whyNone_8 : decode cX4_whyNone 8 = .ok (.goto 17, 3) := by decide +kernel
theorem dX4_whyNone_11 : decode cX4_whyNone 11 = .ok (.aload_n 0, 1) := by decide +kernel
theorem dX4_whyNone_12 : decode cX4_whyNone 12 = .ok (.getfield 32, 3) := by decide +kernel
theorem dX4_whyNone_15 : decode cX4_whyNone 15 = .ok (.iload_n 1, 1) := by decide +kernel
theorem dX4_whyNone_16 : decode cX4_whyNone 16 = .ok (.iaload, 1) := by decide +kernel
theorem dX4_whyNone_17 : decode cX4_whyNone 17 = .ok (.ifCond .ne 7, 3) := by decide +kernel
theorem dX4_whyNone_20 : decode cX4_whyNone 20 = .ok (.iconst 5, 1) := by decide +kernel
theorem dX4_whyNone_21 : decode cX4_whyNone 21 = .ok (.goto 4, 3) := by decide +kernel
theorem dX4_whyNone_24 : decode cX4_whyNone 24 = .ok (.iconst (-1), 1) := by decide +kernel
theorem dX4_whyNone_25 : decode cX4_whyNone 25 = .ok (.ireturn, 1) := by decide +kernel
theorem dX4_puts_0 : decode cX4_puts 0 = .ok (.aload_n 0, 1) := by decide +kernel
theorem dX4_puts_1 : decode cX4_puts 1 = .ok (.getfield 38, 3) := by decide +kernel
theorem dX4_puts_4 : decode cX4_puts 4 = .ok (.bipush 40, 2) := by decide +kernel
theorem dX4_puts_6 : decode cX4_puts 6 = .ok (.iload_n 1, 1) := by decide +kernel
theorem dX4_puts_7 : decode cX4_puts 7 = .ok (.imul, 1) := by decide +kernel
theorem dX4_puts_8 : decode cX4_puts 8 = .ok (.iload_n 2, 1) := by decide +kernel
theorem dX4_puts_9 : decode cX4_puts 9 = .ok (.iadd, 1) := by decide +kernel
theorem dX4_puts_10 : decode cX4_puts 10 = .ok (.aload_n 0, 1) := by decide +kernel
theorem dX4_puts_11 : decode cX4_puts 11 = .ok (.getfield 32, 3) := by decide +kernel
theorem dX4_puts_14 : decode cX4_puts 14 = .ok (.iload_n 1, 1) := by decide +kernel
theorem dX4_puts_15 : decode cX4_puts 15 = .ok (.iaload, 1) := by decide +kernel
theorem dX4_puts_16 : decode cX4_puts 16 = .ok (.bipush 8, 2) := by decide +kernel
theorem dX4_puts_18 : decode cX4_puts 18 = .ok (.if_icmp .ne 10, 3) := by decide +kernel
theorem dX4_puts_21 : decode cX4_puts 21 = .ok (.lload_n 3, 1) := by decide +kernel
theorem dX4_puts_22 : decode cX4_puts 22 = .ok (.l2i, 1) := by decide +kernel
theorem dX4_puts_23 : decode cX4_puts 23 = .ok (.i2b, 1) := by decide +kernel
theorem dX4_puts_24 : decode cX4_puts 24 = .ok (.i2l, 1) := by decide +kernel
theorem dX4_puts_25 : decode cX4_puts 25 = .ok (.goto 22, 3) := by decide +kernel
theorem dX4_puts_28 : decode cX4_puts 28 = .ok (.aload_n 0, 1) := by decide +kernel
theorem dX4_puts_29 : decode cX4_puts 29 = .ok (.getfield 32, 3) := by decide +kernel
theorem dX4_puts_32 : decode cX4_puts 32 = .ok (.iload_n 1, 1) := by decide +kernel
theorem dX4_puts_33 : decode cX4_puts 33 = .ok (.iaload, 1) := by decide +kernel
theorem dX4_puts_34 : decode cX4_puts 34 = .ok (.bipush 16, 2) := by decide +kernel
theorem dX4_puts_36 : decode cX4_puts 36 = .ok (.if_icmp .ne 10, 3) := by decide +kernel
theorem dX4_puts_39 : decode cX4_puts 39 = .ok (.lload_n 3, 1) := by decide +kernel
theorem dX4_puts_40 : decode cX4_puts 40 = .ok (.l2i, 1) := by decide +kernel
theorem dX4_puts_41 : decode cX4_puts 41 = .ok (.i2s, 1) := by decide +kernel
theorem dX4_puts_42 : decode cX4_puts 42 = .ok (.i2l, 1) := by decide +kernel
theorem dX4_puts_43 : decode cX4_puts 43 = .ok (.goto 4, 3) := by decide +kernel
theorem dX4_puts_46 : decode cX4_puts 46 = .ok (.lload_n 3, 1) := by decide +kernel
theorem dX4_puts_47 : decode cX4_puts 47 = .ok (.lastore, 1) := by decide +kernel
theorem dX4_puts_48 : decode cX4_puts 48 = .ok (.return_, 1) := by decide +kernel
theorem dX4_write_0 : decode cX4_write 0 = .ok (.aload_n 0, 1) := by decide +kernel
theorem dX4_write_1 : decode cX4_write 1 = .ok (.iload_n 1, 1) := by decide +kernel
theorem dX4_write_2 : decode cX4_write 2 = .ok (.invokevirtual 268, 3) := by decide +kernel
theorem dX4_write_5 : decode cX4_write 5 = .ok (.istore 5, 2) := by decide +kernel
theorem dX4_write_7 : decode cX4_write 7 = .ok (.iload 5, 2) := by decide +kernel
theorem dX4_write_9 : decode cX4_write 9 = .ok (.ifCond .ge 25, 3) := by decide +kernel
theorem dX4_write_12 : decode cX4_write 12 = .ok (.iload_n 2, 1) := by decide +kernel
theorem dX4_write_13 : decode cX4_write 13 = .ok (.i2l, 1) := by decide +kernel
theorem dX4_write_14 : decode cX4_write 14 = .ok (.lconst 0, 1) := by decide +kernel
theorem dX4_write_15 : decode cX4_write 15 = .ok (.aload_n 0, 1) := by decide +kernel
theorem dX4_write_16 : decode cX4_write 16 = .ok (.getfield 35, 3) := by decide +kernel
theorem dX4_write_19 : decode cX4_write 19 = .ok (.iload_n 1, 1) := by decide +kernel
theorem dX4_write_20 : decode cX4_write 20 = .ok (.iaload, 1) := by decide +kernel
theorem dX4_write_21 : decode cX4_write 21 = .ok (.iconst 1, 1) := by decide +kernel
theorem dX4_write_22 : decode cX4_write 22 = .ok (.isub, 1) := by decide +kernel
theorem dX4_write_23 : decode cX4_write 23 = .ok (.i2l, 1) := by decide +kernel
theorem dX4_write_24 : decode cX4_write 24 = .ok (.invokestatic 46, 3) := by decide +kernel
theorem dX4_write_27 : decode cX4_write 27 = .ok (.ifCond .ne 7, 3) := by decide +kernel
theorem dX4_write_30 : decode cX4_write 30 = .ok (.iconst 0, 1) := by decide +kernel
theorem dX4_write_31 : decode cX4_write 31 = .ok (.goto 5, 3) := by decide +kernel
theorem dX4_write_34 : decode cX4_write 34 = .ok (.iload 5, 2) := by decide +kernel
theorem dX4_write_36 : decode cX4_write 36 = .ok (.istore 5, 2) := by decide +kernel
theorem dX4_write_38 : decode cX4_write 38 = .ok (.iload 5, 2) := by decide +kernel
theorem dX4_write_40 : decode cX4_write 40 = .ok (.ifCond .lt 11, 3) := by decide +kernel
theorem dX4_write_43 : decode cX4_write 43 = .ok (.aload_n 0, 1) := by decide +kernel
theorem dX4_write_44 : decode cX4_write 44 = .ok (.iload 5, 2) := by decide +kernel
theorem dX4_write_46 : decode cX4_write 46 = .ok (.invokevirtual 92, 3) := by decide +kernel
theorem dX4_write_49 : decode cX4_write 49 = .ok (.i2l, 1) := by decide +kernel
theorem dX4_write_50 : decode cX4_write 50 = .ok (.lreturn, 1) := by decide +kernel
theorem dX4_write_51 : decode cX4_write 51 = .ok (.aload_n 0, 1) := by decide +kernel
theorem dX4_write_52 : decode cX4_write 52 = .ok (.getfield 38, 3) := by decide +kernel
theorem dX4_write_55 : decode cX4_write 55 = .ok (.bipush 40, 2) := by decide +kernel
theorem dX4_write_57 : decode cX4_write 57 = .ok (.iload_n 1, 1) := by decide +kernel
theorem dX4_write_58 : decode cX4_write 58 = .ok (.imul, 1) := by decide +kernel
theorem dX4_write_59 : decode cX4_write 59 = .ok (.iload_n 2, 1) := by decide +kernel
theorem dX4_write_60 : decode cX4_write 60 = .ok (.iadd, 1) := by decide +kernel
theorem dX4_write_61 : decode cX4_write 61 = .ok (.laload, 1) := by decide +kernel
theorem dX4_write_62 : decode cX4_write 62 = .ok (.lstore 6, 2) := by decide +kernel
theorem dX4_write_64 : decode cX4_write 64 = .ok (.aload_n 0, 1) := by decide +kernel
theorem dX4_write_65 : decode cX4_write 65 = .ok (.iload_n 1, 1) := by decide +kernel
theorem dX4_write_66 : decode cX4_write 66 = .ok (.iload_n 2, 1) := by decide +kernel
theorem dX4_write_67 : decode cX4_write 67 = .ok (.lload_n 3, 1) := by decide +kernel
theorem dX4_write_68 : decode cX4_write 68 = .ok (.invokevirtual 271, 3) := by decide +kernel
theorem dX4_write_71 : decode cX4_write 71 = .ok (.lload 6, 2) := by decide +kernel
theorem dX4_write_73 : decode cX4_write 73 = .ok (.lreturn, 1) := by decide +kernel
theorem dX4_copy_0 : decode cX4_copy 0 = .ok (.iload_n 1, 1) := by decide +kernel
theorem dX4_copy_1 : decode cX4_copy 1 = .ok (.invokestatic 265, 3) := by decide +kernel
theorem dX4_copy_4 : decode cX4_copy 4 = .ok (.ifCond .eq 10, 3) := by decide +kernel
theorem dX4_copy_7 : decode cX4_copy 7 = .ok (.iload_n 3, 1) := by decide +kernel
theorem dX4_copy_8 : decode cX4_copy 8 = .ok (.invokestatic 265, 3) := by decide +kernel
theorem dX4_copy_11 : decode cX4_copy 11 = .ok (.ifCond .ne 9, 3) := by decide +kernel
theorem dX4_copy_14 : decode cX4_copy 14 = .ok (.aload_n 0, 1) := by decide +kernel
theorem dX4_copy_15 : decode cX4_copy 15 = .ok (.iconst 0, 1) := by decide +kernel
theorem dX4_copy_16 : decode cX4_copy 16 = .ok (.invokevirtual 92, 3) := by decide +kernel
theorem dX4_copy_19 : decode cX4_copy 19 = .ok (.ireturn, 1) := by decide +kernel
theorem dX4_copy_20 : decode cX4_copy 20 = .ok (.aload_n 0, 1) := by decide +kernel
theorem dX4_copy_21 : decode cX4_copy 21 = .ok (.getfield 32, 3) := by decide +kernel
theorem dX4_copy_24 : decode cX4_copy 24 = .ok (.iload_n 1, 1) := by decide +kernel
theorem dX4_copy_25 : decode cX4_copy 25 = .ok (.iaload, 1) := by decide +kernel
theorem dX4_copy_26 : decode cX4_copy 26 = .ok (.ifCond .eq 12, 3) := by decide +kernel
theorem dX4_copy_29 : decode cX4_copy 29 = .ok (.aload_n 0, 1) := by decide +kernel
theorem dX4_copy_30 : decode cX4_copy 30 = .ok (.getfield 32, 3) := by decide +kernel
theorem dX4_copy_33 : decode cX4_copy 33 = .ok (.iload_n 3, 1) := by decide +kernel
theorem dX4_copy_34 : decode cX4_copy 34 = .ok (.iaload, 1) := by decide +kernel
theorem dX4_copy_35 : decode cX4_copy 35 = .ok (.ifCond .ne 9, 3) := by decide +kernel
theorem dX4_copy_38 : decode cX4_copy 38 = .ok (.aload_n 0, 1) := by decide +kernel
theorem dX4_copy_39 : decode cX4_copy 39 = .ok (.iconst 5, 1) := by decide +kernel
theorem dX4_copy_40 : decode cX4_copy 40 = .ok (.invokevirtual 92, 3) := by decide +kernel
theorem dX4_copy_43 : decode cX4_copy 43 = .ok (.ireturn, 1) := by decide +kernel
theorem dX4_copy_44 : decode cX4_copy 44 = .ok (.aload_n 0, 1) := by decide +kernel
theorem dX4_copy_45 : decode cX4_copy 45 = .ok (.getfield 32, 3) := by decide +kernel
theorem dX4_copy_48 : decode cX4_copy 48 = .ok (.iload_n 1, 1) := by decide +kernel
theorem dX4_copy_49 : decode cX4_copy 49 = .ok (.iaload, 1) := by decide +kernel
theorem dX4_copy_50 : decode cX4_copy 50 = .ok (.aload_n 0, 1) := by decide +kernel
theorem dX4_copy_51 : decode cX4_copy 51 = .ok (.getfield 32, 3) := by decide +kernel
theorem dX4_copy_54 : decode cX4_copy 54 = .ok (.iload_n 3, 1) := by decide +kernel
theorem dX4_copy_55 : decode cX4_copy 55 = .ok (.iaload, 1) := by decide +kernel
theorem dX4_copy_56 : decode cX4_copy 56 = .ok (.if_icmp .eq 9, 3) := by decide +kernel
theorem dX4_copy_59 : decode cX4_copy 59 = .ok (.aload_n 0, 1) := by decide +kernel
theorem dX4_copy_60 : decode cX4_copy 60 = .ok (.iconst 2, 1) := by decide +kernel
theorem dX4_copy_61 : decode cX4_copy 61 = .ok (.invokevirtual 92, 3) := by decide +kernel
theorem dX4_copy_64 : decode cX4_copy 64 = .ok (.ireturn, 1) := by decide +kernel
theorem dX4_copy_65 : decode cX4_copy 65 = .ok (.iload_n 2, 1) := by decide +kernel
theorem dX4_copy_66 : decode cX4_copy 66 = .ok (.ifCond .lt 48, 3) := by decide +kernel
theorem dX4_copy_69 : decode cX4_copy 69 = .ok (.iload 4, 2) := by decide +kernel
theorem dX4_copy_71 : decode cX4_copy 71 = .ok (.ifCond .lt 43, 3) := by decide +kernel
theorem dX4_copy_74 : decode cX4_copy 74 = .ok (.iload 5, 2) := by decide +kernel
theorem dX4_copy_76 : decode cX4_copy 76 = .ok (.ifCond .lt 38, 3) := by decide +kernel
theorem dX4_copy_79 : decode cX4_copy 79 = .ok (.iload_n 2, 1) := by decide +kernel
theorem dX4_copy_80 : decode cX4_copy 80 = .ok (.i2l, 1) := by decide +kernel
theorem dX4_copy_81 : decode cX4_copy 81 = .ok (.iload 5, 2) := by decide +kernel
theorem dX4_copy_83 : decode cX4_copy 83 = .ok (.i2l, 1) := by decide +kernel
theorem dX4_copy_84 : decode cX4_copy 84 = .ok (.ladd, 1) := by decide +kernel
theorem dX4_copy_85 : decode cX4_copy 85 = .ok (.aload_n 0, 1) := by decide +kernel
theorem dX4_copy_86 : decode cX4_copy 86 = .ok (.getfield 35, 3) := by decide +kernel
theorem dX4_copy_89 : decode cX4_copy 89 = .ok (.iload_n 1, 1) := by decide +kernel
theorem dX4_copy_90 : decode cX4_copy 90 = .ok (.iaload, 1) := by decide +kernel
theorem dX4_copy_91 : decode cX4_copy 91 = .ok (.i2l, 1) := by decide +kernel
theorem dX4_copy_92 : decode cX4_copy 92 = .ok (.lcmp, 1) := by decide +kernel
theorem dX4_copy_93 : decode cX4_copy 93 = .ok (.ifCond .gt 21, 3) := by decide +kernel
theorem dX4_copy_96 : decode cX4_copy 96 = .ok (.iload 4, 2) := by decide +kernel
theorem dX4_copy_98 : decode cX4_copy 98 = .ok (.i2l, 1) := by decide +kernel
theorem dX4_copy_99 : decode cX4_copy 99 = .ok (.iload 5, 2) := by decide +kernel
theorem dX4_copy_101 : decode cX4_copy 101 = .ok (.i2l, 1) := by decide +kernel
theorem dX4_copy_102 : decode cX4_copy 102 = .ok (.ladd, 1) := by decide +kernel
theorem dX4_copy_103 : decode cX4_copy 103 = .ok (.aload_n 0, 1) := by decide +kernel
theorem dX4_copy_104 : decode cX4_copy 104 = .ok (.getfield 35, 3) := by decide +kernel
theorem dX4_copy_107 : decode cX4_copy 107 = .ok (.iload_n 3, 1) := by decide +kernel
theorem dX4_copy_108 : decode cX4_copy 108 = .ok (.iaload, 1) := by decide +kernel
theorem dX4_copy_109 : decode cX4_copy 109 = .ok (.i2l, 1) := by decide +kernel
theorem dX4_copy_110 : decode cX4_copy 110 = .ok (.lcmp, 1) := by decide +kernel
theorem dX4_copy_111 : decode cX4_copy 111 = .ok (.ifCond .le 9, 3) := by decide +kernel
theorem dX4_copy_114 : decode cX4_copy 114 = .ok (.aload_n 0, 1) := by decide +kernel
theorem dX4_copy_115 : decode cX4_copy 115 = .ok (.iconst 0, 1) := by decide +kernel
theorem dX4_copy_116 : decode cX4_copy 116 = .ok (.invokevirtual 92, 3) := by decide +kernel
theorem dX4_copy_119 : decode cX4_copy 119 = .ok (.ireturn, 1) := by decide +kernel
theorem dX4_copy_120 : decode cX4_copy 120 = .ok (.iconst 0, 1) := by decide +kernel
theorem dX4_copy_121 : decode cX4_copy 121 = .ok (.istore 6, 2) := by decide +kernel
theorem dX4_copy_123 : decode cX4_copy 123 = .ok (.iload 6, 2) := by decide +kernel
theorem dX4_copy_125 : decode cX4_copy 125 = .ok (.iload 5, 2) := by decide +kernel
theorem dX4_copy_127 : decode cX4_copy 127 = .ok (.if_icmp .ge 30, 3) := by decide +kernel
theorem dX4_copy_130 : decode cX4_copy 130 = .ok (.aload_n 0, 1) := by decide +kernel
theorem dX4_copy_131 : decode cX4_copy 131 = .ok (.getfield 42, 3) := by decide +kernel
theorem dX4_copy_134 : decode cX4_copy 134 = .ok (.iload 6, 2) := by decide +kernel
theorem dX4_copy_136 : decode cX4_copy 136 = .ok (.aload_n 0, 1) := by decide +kernel
theorem dX4_copy_137 : decode cX4_copy 137 = .ok (.getfield 38, 3) := by decide +kernel
theorem dX4_copy_140 : decode cX4_copy 140 = .ok (.bipush 40, 2) := by decide +kernel
theorem dX4_copy_142 : decode cX4_copy 142 = .ok (.iload_n 1, 1) := by decide +kernel
theorem dX4_copy_143 : decode cX4_copy 143 = .ok (.imul, 1) := by decide +kernel
theorem dX4_copy_144 : decode cX4_copy 144 = .ok (.iload_n 2, 1) := by decide +kernel
theorem dX4_copy_145 : decode cX4_copy 145 = .ok (.iadd, 1) := by decide +kernel
theorem dX4_copy_146 : decode cX4_copy 146 = .ok (.iload 6, 2) := by decide +kernel
theorem dX4_copy_148 : decode cX4_copy 148 = .ok (.iadd, 1) := by decide +kernel
theorem dX4_copy_149 : decode cX4_copy 149 = .ok (.laload, 1) := by decide +kernel
theorem dX4_copy_150 : decode cX4_copy 150 = .ok (.lastore, 1) := by decide +kernel
theorem dX4_copy_151 : decode cX4_copy 151 = .ok (.iinc 6 1, 3) := by decide +kernel
theorem dX4_copy_154 : decode cX4_copy 154 = .ok (.goto (-31), 3) := by decide +kernel
theorem dX4_copy_157 : decode cX4_copy 157 = .ok (.iconst 0, 1) := by decide +kernel
theorem dX4_copy_158 : decode cX4_copy 158 = .ok (.istore 6, 2) := by decide +kernel
theorem dX4_copy_160 : decode cX4_copy 160 = .ok (.iload 6, 2) := by decide +kernel
theorem dX4_copy_162 : decode cX4_copy 162 = .ok (.iload 5, 2) := by decide +kernel
theorem dX4_copy_164 : decode cX4_copy 164 = .ok (.if_icmp .ge 31, 3) := by decide +kernel
theorem dX4_copy_167 : decode cX4_copy 167 = .ok (.aload_n 0, 1) := by decide +kernel
theorem dX4_copy_168 : decode cX4_copy 168 = .ok (.getfield 38, 3) := by decide +kernel
theorem dX4_copy_171 : decode cX4_copy 171 = .ok (.bipush 40, 2) := by decide +kernel
theorem dX4_copy_173 : decode cX4_copy 173 = .ok (.iload_n 3, 1) := by decide +kernel
theorem dX4_copy_174 : decode cX4_copy 174 = .ok (.imul, 1) := by decide +kernel
theorem dX4_copy_175 : decode cX4_copy 175 = .ok (.iload 4, 2) := by decide +kernel
theorem dX4_copy_177 : decode cX4_copy 177 = .ok (.iadd, 1) := by decide +kernel
theorem dX4_copy_178 : decode cX4_copy 178 = .ok (.iload 6, 2) := by decide +kernel
theorem dX4_copy_180 : decode cX4_copy 180 = .ok (.iadd, 1) := by decide +kernel
theorem dX4_copy_181 : decode cX4_copy 181 = .ok (.aload_n 0, 1) := by decide +kernel
theorem dX4_copy_182 : decode cX4_copy 182 = .ok (.getfield 42, 3) := by decide +kernel
theorem dX4_copy_185 : decode cX4_copy 185 = .ok (.iload 6, 2) := by decide +kernel
theorem dX4_copy_187 : decode cX4_copy 187 = .ok (.laload, 1) := by decide +kernel
theorem dX4_copy_188 : decode cX4_copy 188 = .ok (.lastore, 1) := by decide +kernel
theorem dX4_copy_189 : decode cX4_copy 189 = .ok (.iinc 6 1, 3) := by decide +kernel
theorem dX4_copy_192 : decode cX4_copy 192 = .ok (.goto (-32), 3) := by decide +kernel
theorem dX4_copy_195 : decode cX4_copy 195 = .ok (.iload 5, 2) := by decide +kernel
theorem dX4_copy_197 : decode cX4_copy 197 = .ok (.ireturn, 1) := by decide +kernel
theorem dX4_lays_0 : decode cX4_lays 0 = .ok (.aload_n 0, 1) := by decide +kernel
theorem dX4_lays_1 : decode cX4_lays 1 = .ok (.iload_n 1, 1) := by decide +kernel
theorem dX4_lays_2 : decode cX4_lays 2 = .ok (.invokevirtual 268, 3) := by decide +kernel
theorem dX4_lays_5 : decode cX4_lays 5 = .ok (.istore_n 2, 1) := by decide +kernel
theorem dX4_lays_6 : decode cX4_lays 6 = .ok (.iload_n 2, 1) := by decide +kernel
theorem dX4_lays_7 : decode cX4_lays 7 = .ok (.ifCond .lt 9, 3) := by decide +kernel
theorem dX4_lays_10 : decode cX4_lays 10 = .ok (.aload_n 0, 1) := by decide +kernel
theorem dX4_lays_11 : decode cX4_lays 11 = .ok (.iload_n 2, 1) := by decide +kernel
theorem dX4_lays_12 : decode cX4_lays 12 = .ok (.invokevirtual 92, 3) := by decide +kernel
theorem dX4_lays_15 : decode cX4_lays 15 = .ok (.ireturn, 1) := by decide +kernel
theorem dX4_lays_16 : decode cX4_lays 16 = .ok (.iconst 0, 1) := by decide +kernel
theorem dX4_lays_17 : decode cX4_lays 17 = .ok (.istore_n 3, 1) := by decide +kernel
theorem dX4_lays_18 : decode cX4_lays 18 = .ok (.iconst 0, 1) := by decide +kernel
theorem dX4_lays_19 : decode cX4_lays 19 = .ok (.istore 4, 2) := by decide +kernel
theorem dX4_lays_21 : decode cX4_lays 21 = .ok (.iload 4, 2) := by decide +kernel
theorem dX4_lays_23 : decode cX4_lays 23 = .ok (.aload_n 0, 1) := by decide +kernel
theorem dX4_lays_24 : decode cX4_lays 24 = .ok (.getfield 35, 3) := by decide +kernel
theorem dX4_lays_27 : decode cX4_lays 27 = .ok (.iload_n 1, 1) := by decide +kernel
theorem dX4_lays_28 : decode cX4_lays 28 = .ok (.iaload, 1) := by decide +kernel
theorem dX4_lays_29 : decode cX4_lays 29 = .ok (.if_icmp .ge 65, 3) := by decide +kernel
theorem dX4_lays_32 : decode cX4_lays 32 = .ok (.iload 4, 2) := by decide +kernel
theorem dX4_lays_34 : decode cX4_lays 34 = .ok (.aload_n 0, 1) := by decide +kernel
theorem dX4_lays_35 : decode cX4_lays 35 = .ok (.getfield 7, 3) := by decide +kernel
theorem dX4_lays_38 : decode cX4_lays 38 = .ok (.iconst 0, 1) := by decide +kernel
theorem dX4_lays_39 : decode cX4_lays 39 = .ok (.iaload, 1) := by decide +kernel
theorem dX4_lays_40 : decode cX4_lays 40 = .ok (.if_icmp .ge 54, 3) := by decide +kernel
theorem dX4_lays_43 : decode cX4_lays 43 = .ok (.aload_n 0, 1) := by decide +kernel
theorem dX4_lays_44 : decode cX4_lays 44 = .ok (.getfield 38, 3) := by decide +kernel
theorem dX4_lays_47 : decode cX4_lays 47 = .ok (.bipush 40, 2) := by decide +kernel
theorem dX4_lays_49 : decode cX4_lays 49 = .ok (.iload_n 1, 1) := by decide +kernel
theorem dX4_lays_50 : decode cX4_lays 50 = .ok (.imul, 1) := by decide +kernel
theorem dX4_lays_51 : decode cX4_lays 51 = .ok (.iload 4, 2) := by decide +kernel
theorem dX4_lays_53 : decode cX4_lays 53 = .ok (.iadd, 1) := by decide +kernel
theorem dX4_lays_54 : decode cX4_lays 54 = .ok (.laload, 1) := by decide +kernel
theorem dX4_lays_55 : decode cX4_lays 55 = .ok (.lconst 0, 1) := by decide +kernel
theorem dX4_lays_56 : decode cX4_lays 56 = .ok (.ldc2_w 113, 3) := by decide +kernel
theorem dX4_lays_59 : decode cX4_lays 59 = .ok (.invokestatic 46, 3) := by decide +kernel
theorem dX4_lays_62 : decode cX4_lays 62 = .ok (.ifCond .eq 26, 3) := by decide +kernel
theorem dX4_lays_65 : decode cX4_lays 65 = .ok (.aload_n 0, 1) := by decide +kernel
theorem dX4_lays_66 : decode cX4_lays 66 = .ok (.iload 4, 2) := by decide +kernel
theorem dX4_lays_68 : decode cX4_lays 68 = .ok (.iconst 1, 1) := by decide +kernel
theorem dX4_lays_69 : decode cX4_lays 69 = .ok (.aload_n 0, 1) := by decide +kernel
theorem dX4_lays_70 : decode cX4_lays 70 = .ok (.getfield 38, 3) := by decide +kernel
theorem dX4_lays_73 : decode cX4_lays 73 = .ok (.bipush 40, 2) := by decide +kernel
theorem dX4_lays_75 : decode cX4_lays 75 = .ok (.iload_n 1, 1) := by decide +kernel
theorem dX4_lays_76 : decode cX4_lays 76 = .ok (.imul, 1) := by decide +kernel
theorem dX4_lays_77 : decode cX4_lays 77 = .ok (.iload 4, 2) := by decide +kernel
theorem dX4_lays_79 : decode cX4_lays 79 = .ok (.iadd, 1) := by decide +kernel
theorem dX4_lays_80 : decode cX4_lays 80 = .ok (.laload, 1) := by decide +kernel
theorem dX4_lays_81 : decode cX4_lays 81 = .ok (.l2i, 1) := by decide +kernel
theorem dX4_lays_82 : decode cX4_lays 82 = .ok (.invokevirtual 73, 3) := by decide +kernel
theorem dX4_lays_85 : decode cX4_lays 85 = .ok (.iinc 3 1, 3) := by decide +kernel
theorem dX4_lays_88 : decode cX4_lays 88 = .ok (.iinc 4 1, 3) := by decide +kernel
theorem dX4_lays_91 : decode cX4_lays 91 = .ok (.goto (-70), 3) := by decide +kernel
theorem dX4_lays_94 : decode cX4_lays 94 = .ok (.iload_n 3, 1) := by decide +kernel
theorem dX4_lays_95 : decode cX4_lays 95 = .ok (.ireturn, 1) := by decide +kernel
theorem dX4_book_0 : decode cX4_book 0 = .ok (.aload_n 0, 1) := by decide +kernel
theorem dX4_book_1 : decode cX4_book 1 = .ok (.iload_n 1, 1) := by decide +kernel
theorem dX4_book_2 : decode cX4_book 2 = .ok (.invokevirtual 268, 3) := by decide +kernel
theorem dX4_book_5 : decode cX4_book 5 = .ok (.istore_n 3, 1) := by decide +kernel
theorem dX4_book_6 : decode cX4_book 6 = .ok (.iload_n 3, 1) := by decide +kernel
theorem dX4_book_7 : decode cX4_book 7 = .ok (.ifCond .ge 15, 3) := by decide +kernel
theorem dX4_book_10 : decode cX4_book 10 = .ok (.aload_n 0, 1) := by decide +kernel
theorem dX4_book_11 : decode cX4_book 11 = .ok (.iload_n 2, 1) := by decide +kernel
theorem dX4_book_12 : decode cX4_book 12 = .ok (.invokevirtual 50, 3) := by decide +kernel
theorem dX4_book_15 : decode cX4_book 15 = .ok (.ifCond .ne 7, 3) := by decide +kernel
theorem dX4_book_18 : decode cX4_book 18 = .ok (.iconst 0, 1) := by decide +kernel
theorem dX4_book_19 : decode cX4_book 19 = .ok (.goto 4, 3) := by decide +kernel
theorem dX4_book_22 : decode cX4_book 22 = .ok (.iload_n 3, 1) := by decide +kernel
theorem dX4_book_23 : decode cX4_book 23 = .ok (.istore_n 3, 1) := by decide +kernel
theorem dX4_book_24 : decode cX4_book 24 = .ok (.iload_n 3, 1) := by decide +kernel
theorem dX4_book_25 : decode cX4_book 25 = .ok (.ifCond .lt 9, 3) := by decide +kernel
theorem dX4_book_28 : decode cX4_book 28 = .ok (.aload_n 0, 1) := by decide +kernel
theorem dX4_book_29 : decode cX4_book 29 = .ok (.iload_n 3, 1) := by decide +kernel
theorem dX4_book_30 : decode cX4_book 30 = .ok (.invokevirtual 92, 3) := by decide +kernel
theorem dX4_book_33 : decode cX4_book 33 = .ok (.ireturn, 1) := by decide +kernel
theorem dX4_book_34 : decode cX4_book 34 = .ok (.aload_n 0, 1) := by decide +kernel
theorem dX4_book_35 : decode cX4_book 35 = .ok (.getfield 7, 3) := by decide +kernel
theorem dX4_book_38 : decode cX4_book 38 = .ok (.aload_n 0, 1) := by decide +kernel
theorem dX4_book_39 : decode cX4_book 39 = .ok (.getfield 16, 3) := by decide +kernel
theorem dX4_book_42 : decode cX4_book 42 = .ok (.invokestatic 129, 3) := by decide +kernel
theorem dX4_book_45 : decode cX4_book 45 = .ok (.iconst 0, 1) := by decide +kernel
theorem dX4_book_46 : decode cX4_book 46 = .ok (.istore 4, 2) := by decide +kernel
theorem dX4_book_48 : decode cX4_book 48 = .ok (.iload 4, 2) := by decide +kernel
theorem dX4_book_50 : decode cX4_book 50 = .ok (.aload_n 0, 1) := by decide +kernel
theorem dX4_book_51 : decode cX4_book 51 = .ok (.getfield 35, 3) := by decide +kernel
theorem dX4_book_54 : decode cX4_book 54 = .ok (.iload_n 1, 1) := by decide +kernel
theorem dX4_book_55 : decode cX4_book 55 = .ok (.iaload, 1) := by decide +kernel
theorem dX4_book_56 : decode cX4_book 56 = .ok (.if_icmp .ge 26, 3) := by decide +kernel
theorem dX4_book_59 : decode cX4_book 59 = .ok (.aload_n 0, 1) := by decide +kernel
theorem dX4_book_60 : decode cX4_book 60 = .ok (.iload_n 1, 1) := by decide +kernel
theorem dX4_book_61 : decode cX4_book 61 = .ok (.iload 4, 2) := by decide +kernel
theorem dX4_book_63 : decode cX4_book 63 = .ok (.aload_n 0, 1) := by decide +kernel
theorem dX4_book_64 : decode cX4_book 64 = .ok (.iload_n 2, 1) := by decide +kernel
theorem dX4_book_65 : decode cX4_book 65 = .ok (.invokevirtual 66, 3) := by decide +kernel
theorem dX4_book_68 : decode cX4_book 68 = .ok (.i2l, 1) := by decide +kernel
theorem dX4_book_69 : decode cX4_book 69 = .ok (.invokevirtual 271, 3) := by decide +kernel
theorem dX4_book_72 : decode cX4_book 72 = .ok (.aload_n 0, 1) := by decide +kernel
theorem dX4_book_73 : decode cX4_book 73 = .ok (.invokevirtual 80, 3) := by decide +kernel
theorem dX4_book_76 : decode cX4_book 76 = .ok (.iinc 4 1, 3) := by decide +kernel
theorem dX4_book_79 : decode cX4_book 79 = .ok (.goto (-31), 3) := by decide +kernel
theorem dX4_book_82 : decode cX4_book 82 = .ok (.aload_n 0, 1) := by decide +kernel
theorem dX4_book_83 : decode cX4_book 83 = .ok (.getfield 16, 3) := by decide +kernel
theorem dX4_book_86 : decode cX4_book 86 = .ok (.aload_n 0, 1) := by decide +kernel
theorem dX4_book_87 : decode cX4_book 87 = .ok (.getfield 7, 3) := by decide +kernel
theorem dX4_book_90 : decode cX4_book 90 = .ok (.invokestatic 129, 3) := by decide +kernel
theorem dX4_book_93 : decode cX4_book 93 = .ok (.aload_n 0, 1) := by decide +kernel
theorem dX4_book_94 : decode cX4_book 94 = .ok (.getfield 35, 3) := by decide +kernel
theorem dX4_book_97 : decode cX4_book 97 = .ok (.iload_n 1, 1) := by decide +kernel
theorem dX4_book_98 : decode cX4_book 98 = .ok (.iaload, 1) := by decide +kernel
theorem dX4_book_99 : decode cX4_book 99 = .ok (.ireturn, 1) := by decide +kernel
theorem dX4_read_0 : decode cX4_read 0 = .ok (.aload_n 0, 1) := by decide +kernel
theorem dX4_read_1 : decode cX4_read 1 = .ok (.iload_n 1, 1) := by decide +kernel
theorem dX4_read_2 : decode cX4_read 2 = .ok (.invokevirtual 268, 3) := by decide +kernel
theorem dX4_read_5 : decode cX4_read 5 = .ok (.istore_n 3, 1) := by decide +kernel
theorem dX4_read_6 : decode cX4_read 6 = .ok (.iload_n 3, 1) := by decide +kernel
theorem dX4_read_7 : decode cX4_read 7 = .ok (.ifCond .ge 15, 3) := by decide +kernel
theorem dX4_read_10 : decode cX4_read 10 = .ok (.aload_n 0, 1) := by decide +kernel
theorem dX4_read_11 : decode cX4_read 11 = .ok (.iload_n 2, 1) := by decide +kernel
theorem dX4_read_12 : decode cX4_read 12 = .ok (.invokevirtual 50, 3) := by decide +kernel
theorem dX4_read_15 : decode cX4_read 15 = .ok (.ifCond .ne 7, 3) := by decide +kernel
theorem dX4_read_18 : decode cX4_read 18 = .ok (.iconst 0, 1) := by decide +kernel
theorem dX4_read_19 : decode cX4_read 19 = .ok (.goto 4, 3) := by decide +kernel
theorem dX4_read_22 : decode cX4_read 22 = .ok (.iload_n 3, 1) := by decide +kernel
theorem dX4_read_23 : decode cX4_read 23 = .ok (.istore_n 3, 1) := by decide +kernel
theorem dX4_read_24 : decode cX4_read 24 = .ok (.iload_n 3, 1) := by decide +kernel
theorem dX4_read_25 : decode cX4_read 25 = .ok (.ifCond .lt 9, 3) := by decide +kernel
theorem dX4_read_28 : decode cX4_read 28 = .ok (.aload_n 0, 1) := by decide +kernel
theorem dX4_read_29 : decode cX4_read 29 = .ok (.iload_n 3, 1) := by decide +kernel
theorem dX4_read_30 : decode cX4_read 30 = .ok (.invokevirtual 92, 3) := by decide +kernel
theorem dX4_read_33 : decode cX4_read 33 = .ok (.ireturn, 1) := by decide +kernel
theorem dX4_read_34 : decode cX4_read 34 = .ok (.aload_n 0, 1) := by decide +kernel
theorem dX4_read_35 : decode cX4_read 35 = .ok (.getfield 7, 3) := by decide +kernel
theorem dX4_read_38 : decode cX4_read 38 = .ok (.aload_n 0, 1) := by decide +kernel
theorem dX4_read_39 : decode cX4_read 39 = .ok (.getfield 16, 3) := by decide +kernel
theorem dX4_read_42 : decode cX4_read 42 = .ok (.invokestatic 129, 3) := by decide +kernel
theorem dX4_read_45 : decode cX4_read 45 = .ok (.iconst 0, 1) := by decide +kernel
theorem dX4_read_46 : decode cX4_read 46 = .ok (.istore 4, 2) := by decide +kernel
theorem dX4_read_48 : decode cX4_read 48 = .ok (.iconst 0, 1) := by decide +kernel
theorem dX4_read_49 : decode cX4_read 49 = .ok (.istore 5, 2) := by decide +kernel
theorem dX4_read_51 : decode cX4_read 51 = .ok (.iload 5, 2) := by decide +kernel
theorem dX4_read_53 : decode cX4_read 53 = .ok (.sipush 600, 3) := by decide +kernel
theorem dX4_read_56 : decode cX4_read 56 = .ok (.if_icmp .ge 118, 3) := by decide +kernel
theorem dX4_read_59 : decode cX4_read 59 = .ok (.aload_n 0, 1) := by decide +kernel
theorem dX4_read_60 : decode cX4_read 60 = .ok (.iload_n 2, 1) := by decide +kernel
theorem dX4_read_61 : decode cX4_read 61 = .ok (.iconst 0, 1) := by decide +kernel
theorem dX4_read_62 : decode cX4_read 62 = .ok (.iload 5, 2) := by decide +kernel
theorem dX4_read_64 : decode cX4_read 64 = .ok (.bipush 100, 2) := by decide +kernel
theorem dX4_read_66 : decode cX4_read 66 = .ok (.idiv, 1) := by decide +kernel
theorem dX4_read_67 : decode cX4_read 67 = .ok (.invokevirtual 73, 3) := by decide +kernel
theorem dX4_read_70 : decode cX4_read 70 = .ok (.aload_n 0, 1) := by decide +kernel
theorem dX4_read_71 : decode cX4_read 71 = .ok (.iload_n 2, 1) := by decide +kernel
theorem dX4_read_72 : decode cX4_read 72 = .ok (.iconst 1, 1) := by decide +kernel
theorem dX4_read_73 : decode cX4_read 73 = .ok (.iload 5, 2) := by decide +kernel
theorem dX4_read_75 : decode cX4_read 75 = .ok (.bipush 100, 2) := by decide +kernel
theorem dX4_read_77 : decode cX4_read 77 = .ok (.irem, 1) := by decide +kernel
theorem dX4_read_78 : decode cX4_read 78 = .ok (.invokevirtual 73, 3) := by decide +kernel
theorem dX4_read_81 : decode cX4_read 81 = .ok (.iconst 1, 1) := by decide +kernel
theorem dX4_read_82 : decode cX4_read 82 = .ok (.istore 6, 2) := by decide +kernel
theorem dX4_read_84 : decode cX4_read 84 = .ok (.iconst 0, 1) := by decide +kernel
theorem dX4_read_85 : decode cX4_read 85 = .ok (.istore 7, 2) := by decide +kernel
theorem dX4_read_87 : decode cX4_read 87 = .ok (.iload 7, 2) := by decide +kernel
theorem dX4_read_89 : decode cX4_read 89 = .ok (.aload_n 0, 1) := by decide +kernel
theorem dX4_read_90 : decode cX4_read 90 = .ok (.getfield 35, 3) := by decide +kernel
theorem dX4_read_93 : decode cX4_read 93 = .ok (.iload_n 1, 1) := by decide +kernel
theorem dX4_read_94 : decode cX4_read 94 = .ok (.iaload, 1) := by decide +kernel
theorem dX4_read_95 : decode cX4_read 95 = .ok (.if_icmp .ge 47, 3) := by decide +kernel
theorem dX4_read_98 : decode cX4_read 98 = .ok (.iload 6, 2) := by decide +kernel
theorem dX4_read_100 : decode cX4_read 100 = .ok (.ifCond .eq 42, 3) := by decide +kernel
theorem dX4_read_103 : decode cX4_read 103 = .ok (.aload_n 0, 1) := by decide +kernel
theorem dX4_read_104 : decode cX4_read 104 = .ok (.getfield 38, 3) := by decide +kernel
theorem dX4_read_107 : decode cX4_read 107 = .ok (.bipush 40, 2) := by decide +kernel
theorem dX4_read_109 : decode cX4_read 109 = .ok (.iload_n 1, 1) := by decide +kernel
theorem dX4_read_110 : decode cX4_read 110 = .ok (.imul, 1) := by decide +kernel
theorem dX4_read_111 : decode cX4_read 111 = .ok (.iload 7, 2) := by decide +kernel
theorem dX4_read_113 : decode cX4_read 113 = .ok (.iadd, 1) := by decide +kernel
theorem dX4_read_114 : decode cX4_read 114 = .ok (.laload, 1) := by decide +kernel
theorem dX4_read_115 : decode cX4_read 115 = .ok (.aload_n 0, 1) := by decide +kernel
theorem dX4_read_116 : decode cX4_read 116 = .ok (.iload_n 2, 1) := by decide +kernel
theorem dX4_read_117 : decode cX4_read 117 = .ok (.invokevirtual 66, 3) := by decide +kernel
theorem dX4_read_120 : decode cX4_read 120 = .ok (.i2l, 1) := by decide +kernel
theorem dX4_read_121 : decode cX4_read 121 = .ok (.lcmp, 1) := by decide +kernel
theorem dX4_read_122 : decode cX4_read 122 = .ok (.ifCond .ne 7, 3) := by decide +kernel
theorem dX4_read_125 : decode cX4_read 125 = .ok (.iconst 1, 1) := by decide +kernel
theorem dX4_read_126 : decode cX4_read 126 = .ok (.goto 4, 3) := by decide +kernel
theorem dX4_read_129 : decode cX4_read 129 = .ok (.iconst 0, 1) := by decide +kernel
theorem dX4_read_130 : decode cX4_read 130 = .ok (.istore 6, 2) := by decide +kernel
theorem dX4_read_132 : decode cX4_read 132 = .ok (.aload_n 0, 1) := by decide +kernel
theorem dX4_read_133 : decode cX4_read 133 = .ok (.invokevirtual 80, 3) := by decide +kernel
theorem dX4_read_136 : decode cX4_read 136 = .ok (.iinc 7 1, 3) := by decide +kernel
theorem dX4_read_139 : decode cX4_read 139 = .ok (.goto (-52), 3) := by decide +kernel
theorem dX4_read_142 : decode cX4_read 142 = .ok (.aload_n 0, 1) := by decide +kernel
theorem dX4_read_143 : decode cX4_read 143 = .ok (.getfield 16, 3) := by decide +kernel
theorem dX4_read_146 : decode cX4_read 146 = .ok (.aload_n 0, 1) := by decide +kernel
theorem dX4_read_147 : decode cX4_read 147 = .ok (.getfield 7, 3) := by decide +kernel
theorem dX4_read_150 : decode cX4_read 150 = .ok (.invokestatic 129, 3) := by decide +kernel
theorem dX4_read_153 : decode cX4_read 153 = .ok (.iload 4, 2) := by decide +kernel
theorem dX4_read_155 : decode cX4_read 155 = .ok (.iload 6, 2) := by decide +kernel
theorem dX4_read_157 : decode cX4_read 157 = .ok (.ifCond .eq 7, 3) := by decide +kernel
theorem dX4_read_160 : decode cX4_read 160 = .ok (.iconst 1, 1) := by decide +kernel
theorem dX4_read_161 : decode cX4_read 161 = .ok (.goto 4, 3) := by decide +kernel
theorem dX4_read_164 : decode cX4_read 164 = .ok (.iconst 0, 1) := by decide +kernel
theorem dX4_read_165 : decode cX4_read 165 = .ok (.iadd, 1) := by decide +kernel
theorem dX4_read_166 : decode cX4_read 166 = .ok (.istore 4, 2) := by decide +kernel
theorem dX4_read_168 : decode cX4_read 168 = .ok (.iinc 5 1, 3) := by decide +kernel
theorem dX4_read_171 : decode cX4_read 171 = .ok (.goto (-120), 3) := by decide +kernel
theorem dX4_read_174 : decode cX4_read 174 = .ok (.iload 4, 2) := by decide +kernel
theorem dX4_read_176 : decode cX4_read 176 = .ok (.ireturn, 1) := by decide +kernel
theorem dX4_image_0 : decode cX4_image 0 = .ok (.aload_n 0, 1) := by decide +kernel
theorem dX4_image_1 : decode cX4_image 1 = .ok (.getfield 7, 3) := by decide +kernel
theorem dX4_image_4 : decode cX4_image 4 = .ok (.aload_n 0, 1) := by decide +kernel
theorem dX4_image_5 : decode cX4_image 5 = .ok (.getfield 19, 3) := by decide +kernel
theorem dX4_image_8 : decode cX4_image 8 = .ok (.invokestatic 129, 3) := by decide +kernel
theorem dX4_image_11 : decode cX4_image 11 = .ok (.aload_n 0, 1) := by decide +kernel
theorem dX4_image_12 : decode cX4_image 12 = .ok (.iconst 1, 1) := by decide +kernel
theorem dX4_image_13 : decode cX4_image 13 = .ok (.putfield 275, 3) := by decide +kernel
theorem dX4_image_16 : decode cX4_image 16 = .ok (.iconst 1, 1) := by decide +kernel
theorem dX4_image_17 : decode cX4_image 17 = .ok (.ireturn, 1) := by decide +kernel
theorem dX4_undo_0 : decode cX4_undo 0 = .ok (.aload_n 0, 1) := by decide +kernel
theorem dX4_undo_1 : decode cX4_undo 1 = .ok (.getfield 275, 3) := by decide +kernel
theorem dX4_undo_4 : decode cX4_undo 4 = .ok (.ifCond .ne 9, 3) := by decide +kernel
theorem dX4_undo_7 : decode cX4_undo 7 = .ok (.aload_n 0, 1) := by decide +kernel
theorem dX4_undo_8 : decode cX4_undo 8 = .ok (.iconst 3, 1) := by decide +kernel
theorem dX4_undo_9 : decode cX4_undo 9 = .ok (.invokevirtual 92, 3) := by decide +kernel
theorem dX4_undo_12 : decode cX4_undo 12 = .ok (.ireturn, 1) := by decide +kernel
theorem dX4_undo_13 : decode cX4_undo 13 = .ok (.aload_n 0, 1) := by decide +kernel
theorem dX4_undo_14 : decode cX4_undo 14 = .ok (.getfield 19, 3) := by decide +kernel
theorem dX4_undo_17 : decode cX4_undo 17 = .ok (.aload_n 0, 1) := by decide +kernel
theorem dX4_undo_18 : decode cX4_undo 18 = .ok (.getfield 7, 3) := by decide +kernel
theorem dX4_undo_21 : decode cX4_undo 21 = .ok (.invokestatic 129, 3) := by decide +kernel
theorem dX4_undo_24 : decode cX4_undo 24 = .ok (.aload_n 0, 1) := by decide +kernel
theorem dX4_undo_25 : decode cX4_undo 25 = .ok (.getfield 7, 3) := by decide +kernel
end
section
theorem dX4_undo_28 : decode cX4_undo 28 = .ok (.iconst 0, 1) := by decide +kernel
theorem dX4_undo_29 : decode cX4_undo 29 = .ok (.iaload, 1) := by decide +kernel
theorem dX4_undo_30 : decode cX4_undo 30 = .ok (.ireturn, 1) := by decide +kernel
theorem dX4_tear_0 : decode cX4_tear 0 = .ok (.aload_n 0, 1) := by decide +kernel
theorem dX4_tear_1 : decode cX4_tear 1 = .ok (.getfield 275, 3) := by decide +kernel
theorem dX4_tear_4 : decode cX4_tear 4 = .ok (.ifCond .eq 7, 3) := by decide +kernel
theorem dX4_tear_7 : decode cX4_tear 7 = .ok (.iconst 1, 1) := by decide +kernel
theorem dX4_tear_8 : decode cX4_tear 8 = .ok (.goto 4, 3) := by decide +kernel
theorem dX4_tear_11 : decode cX4_tear 11 = .ok (.iconst 0, 1) := by decide +kernel
theorem dX4_tear_12 : decode cX4_tear 12 = .ok (.istore_n 1, 1) := by decide +kernel
theorem dX4_tear_13 : decode cX4_tear 13 = .ok (.aload_n 0, 1) := by decide +kernel
theorem dX4_tear_14 : decode cX4_tear 14 = .ok (.iconst 0, 1) := by decide +kernel
theorem dX4_tear_15 : decode cX4_tear 15 = .ok (.putfield 275, 3) := by decide +kernel
theorem dX4_tear_18 : decode cX4_tear 18 = .ok (.iload_n 1, 1) := by decide +kernel
theorem dX4_tear_19 : decode cX4_tear 19 = .ok (.ireturn, 1) := by decide +kernel
theorem dX4_count_0 : decode cX4_count 0 = .ok (.iconst 0, 1) := by decide +kernel
theorem dX4_count_1 : decode cX4_count 1 = .ok (.istore_n 2, 1) := by decide +kernel
theorem dX4_count_2 : decode cX4_count 2 = .ok (.iconst 0, 1) := by decide +kernel
theorem dX4_count_3 : decode cX4_count 3 = .ok (.istore_n 3, 1) := by decide +kernel
theorem dX4_count_4 : decode cX4_count 4 = .ok (.iload_n 3, 1) := by decide +kernel
theorem dX4_count_5 : decode cX4_count 5 = .ok (.bipush 16, 2) := by decide +kernel
theorem dX4_count_7 : decode cX4_count 7 = .ok (.if_icmp .ge 21, 3) := by decide +kernel
theorem dX4_count_10 : decode cX4_count 10 = .ok (.iload_n 2, 1) := by decide +kernel
theorem dX4_count_11 : decode cX4_count 11 = .ok (.aload_n 0, 1) := by decide +kernel
theorem dX4_count_12 : decode cX4_count 12 = .ok (.getfield 7, 3) := by decide +kernel
theorem dX4_count_15 : decode cX4_count 15 = .ok (.bipush 19, 2) := by decide +kernel
theorem dX4_count_17 : decode cX4_count 17 = .ok (.iload_n 3, 1) := by decide +kernel
theorem dX4_count_18 : decode cX4_count 18 = .ok (.iadd, 1) := by decide +kernel
theorem dX4_count_19 : decode cX4_count 19 = .ok (.iaload, 1) := by decide +kernel
theorem dX4_count_20 : decode cX4_count 20 = .ok (.iadd, 1) := by decide +kernel
theorem dX4_count_21 : decode cX4_count 21 = .ok (.istore_n 2, 1) := by decide +kernel
theorem dX4_count_22 : decode cX4_count 22 = .ok (.iinc 3 1, 3) := by decide +kernel
theorem dX4_count_25 : decode cX4_count 25 = .ok (.goto (-21), 3) := by decide +kernel
theorem dX4_count_28 : decode cX4_count 28 = .ok (.iload_n 1, 1) := by decide +kernel
theorem dX4_count_29 : decode cX4_count 29 = .ok (.tableswitch 51 0 3 #[31, 38, 43, 45], 31) := by decide +kernel
theorem dX4_count_60 : decode cX4_count 60 = .ok (.aload_n 0, 1) := by decide +kernel
theorem dX4_count_61 : decode cX4_count 61 = .ok (.getfield 7, 3) := by decide +kernel
theorem dX4_count_64 : decode cX4_count 64 = .ok (.iconst 0, 1) := by decide +kernel
theorem dX4_count_65 : decode cX4_count 65 = .ok (.iaload, 1) := by decide +kernel
theorem dX4_count_66 : decode cX4_count 66 = .ok (.ireturn, 1) := by decide +kernel
theorem dX4_count_67 : decode cX4_count 67 = .ok (.aload_n 0, 1) := by decide +kernel
theorem dX4_count_68 : decode cX4_count 68 = .ok (.getfield 156, 3) := by decide +kernel
theorem dX4_count_71 : decode cX4_count 71 = .ok (.ireturn, 1) := by decide +kernel
theorem dX4_count_72 : decode cX4_count 72 = .ok (.iload_n 2, 1) := by decide +kernel
theorem dX4_count_73 : decode cX4_count 73 = .ok (.ireturn, 1) := by decide +kernel
theorem dX4_count_74 : decode cX4_count 74 = .ok (.aload_n 0, 1) := by decide +kernel
theorem dX4_count_75 : decode cX4_count 75 = .ok (.iconst 1, 1) := by decide +kernel
theorem dX4_count_76 : decode cX4_count 76 = .ok (.invokevirtual 98, 3) := by decide +kernel
theorem dX4_count_79 : decode cX4_count 79 = .ok (.ireturn, 1) := by decide +kernel
theorem dX4_count_80 : decode cX4_count 80 = .ok (.aload_n 0, 1) := by decide +kernel
theorem dX4_count_81 : decode cX4_count 81 = .ok (.iconst 0, 1) := by decide +kernel
theorem dX4_count_82 : decode cX4_count 82 = .ok (.invokevirtual 92, 3) := by decide +kernel
theorem dX4_count_85 : decode cX4_count 85 = .ok (.ireturn, 1) := by decide +kernel
theorem dX4_status_0 : decode cX4_status 0 = .ok (.iload_n 1, 1) := by decide +kernel
theorem dX4_status_1 : decode cX4_status 1 = .ok (.i2l, 1) := by decide +kernel
theorem dX4_status_2 : decode cX4_status 2 = .ok (.ldc2_w 279, 3) := by decide +kernel
theorem dX4_status_5 : decode cX4_status 5 = .ok (.ldc2_w 281, 3) := by decide +kernel
theorem dX4_status_8 : decode cX4_status 8 = .ok (.invokestatic 46, 3) := by decide +kernel
theorem dX4_status_11 : decode cX4_status 11 = .ok (.ifCond .ne 9, 3) := by decide +kernel
theorem dX4_status_14 : decode cX4_status 14 = .ok (.aload_n 0, 1) := by decide +kernel
theorem dX4_status_15 : decode cX4_status 15 = .ok (.iconst 0, 1) := by decide +kernel
theorem dX4_status_16 : decode cX4_status 16 = .ok (.invokevirtual 92, 3) := by decide +kernel
theorem dX4_status_19 : decode cX4_status 19 = .ok (.ireturn, 1) := by decide +kernel
theorem dX4_status_20 : decode cX4_status 20 = .ok (.iconst 0, 1) := by decide +kernel
theorem dX4_status_21 : decode cX4_status 21 = .ok (.istore_n 2, 1) := by decide +kernel
theorem dX4_status_22 : decode cX4_status 22 = .ok (.iconst 0, 1) := by decide +kernel
theorem dX4_status_23 : decode cX4_status 23 = .ok (.istore_n 3, 1) := by decide +kernel
theorem dX4_status_24 : decode cX4_status 24 = .ok (.iload_n 3, 1) := by decide +kernel
theorem dX4_status_25 : decode cX4_status 25 = .ok (.bipush 7, 2) := by decide +kernel
theorem dX4_status_27 : decode cX4_status 27 = .ok (.if_icmp .ge 18, 3) := by decide +kernel
theorem dX4_status_30 : decode cX4_status 30 = .ok (.iload_n 2, 1) := by decide +kernel
theorem dX4_status_31 : decode cX4_status 31 = .ok (.aload_n 0, 1) := by decide +kernel
theorem dX4_status_32 : decode cX4_status 32 = .ok (.getfield 22, 3) := by decide +kernel
theorem dX4_status_35 : decode cX4_status 35 = .ok (.iload_n 3, 1) := by decide +kernel
theorem dX4_status_36 : decode cX4_status 36 = .ok (.iaload, 1) := by decide +kernel
theorem dX4_status_37 : decode cX4_status 37 = .ok (.iadd, 1) := by decide +kernel
theorem dX4_status_38 : decode cX4_status 38 = .ok (.istore_n 2, 1) := by decide +kernel
theorem dX4_status_39 : decode cX4_status 39 = .ok (.iinc 3 1, 3) := by decide +kernel
theorem dX4_status_42 : decode cX4_status 42 = .ok (.goto (-18), 3) := by decide +kernel
theorem dX4_status_45 : decode cX4_status 45 = .ok (.iload_n 1, 1) := by decide +kernel
theorem dX4_status_46 : decode cX4_status 46 = .ok (.ifCond .ge 7, 3) := by decide +kernel
theorem dX4_status_49 : decode cX4_status 49 = .ok (.iload_n 2, 1) := by decide +kernel
theorem dX4_status_50 : decode cX4_status 50 = .ok (.goto 9, 3) := by decide +kernel
theorem dX4_status_53 : decode cX4_status 53 = .ok (.aload_n 0, 1) := by decide +kernel
theorem dX4_status_54 : decode cX4_status 54 = .ok (.getfield 22, 3) := by decide +kernel
theorem dX4_status_57 : decode cX4_status 57 = .ok (.iload_n 1, 1) := by decide +kernel
theorem dX4_status_58 : decode cX4_status 58 = .ok (.iaload, 1) := by decide +kernel
theorem dX4_status_59 : decode cX4_status 59 = .ok (.ireturn, 1) := by decide +kernel
theorem dJ9_max_7cf53_0 : decode cJ9_max_7cf53 0 = .ok (.iload_n 0, 1) := by decide +kernel
theorem dJ9_max_7cf53_1 : decode cJ9_max_7cf53 1 = .ok (.iload_n 1, 1) := by decide +kernel
theorem dJ9_max_7cf53_2 : decode cJ9_max_7cf53 2 = .ok (.if_icmp .lt 7, 3) := by decide +kernel
theorem dJ9_max_7cf53_5 : decode cJ9_max_7cf53 5 = .ok (.iload_n 0, 1) := by decide +kernel
theorem dJ9_max_7cf53_6 : decode cJ9_max_7cf53 6 = .ok (.goto 4, 3) := by decide +kernel
theorem dJ9_max_7cf53_9 : decode cJ9_max_7cf53 9 = .ok (.iload_n 1, 1) := by decide +kernel
theorem dJ9_max_7cf53_10 : decode cJ9_max_7cf53 10 = .ok (.ireturn, 1) := by decide +kernel
theorem dJ9_min_7cf53_0 : decode cJ9_min_7cf53 0 = .ok (.iload_n 0, 1) := by decide +kernel
theorem dJ9_min_7cf53_1 : decode cJ9_min_7cf53 1 = .ok (.iload_n 1, 1) := by decide +kernel
theorem dJ9_min_7cf53_2 : decode cJ9_min_7cf53 2 = .ok (.if_icmp .gt 7, 3) := by decide +kernel
theorem dJ9_min_7cf53_5 : decode cJ9_min_7cf53 5 = .ok (.iload_n 0, 1) := by decide +kernel
theorem dJ9_min_7cf53_6 : decode cJ9_min_7cf53 6 = .ok (.goto 4, 3) := by decide +kernel
theorem dJ9_min_7cf53_9 : decode cJ9_min_7cf53 9 = .ok (.iload_n 1, 1) := by decide +kernel
theorem dJ9_min_7cf53_10 : decode cJ9_min_7cf53 10 = .ok (.ireturn, 1) := by decide +kernel
theorem dJ0_length_8abf5_0 : decode cJ0_length_8abf5 0 = .ok (.aload_n 0, 1) := by decide +kernel
theorem dJ0_length_8abf5_1 : decode cJ0_length_8abf5 1 = .ok (.getfield 9, 3) := by decide +kernel
theorem dJ0_length_8abf5_4 : decode cJ0_length_8abf5 4 = .ok (.arraylength, 1) := by decide +kernel
theorem dJ0_length_8abf5_5 : decode cJ0_length_8abf5 5 = .ok (.aload_n 0, 1) := by decide +kernel
theorem dJ0_length_8abf5_6 : decode cJ0_length_8abf5 6 = .ok (.invokevirtual 335, 3) := by decide +kernel
theorem dJ0_length_8abf5_9 : decode cJ0_length_8abf5 9 = .ok (.ishr, 1) := by decide +kernel
theorem dJ0_length_8abf5_10 : decode cJ0_length_8abf5 10 = .ok (.ireturn, 1) := by decide +kernel
theorem dJ0_charAt_5068e_0 : decode cJ0_charAt_5068e 0 = .ok (.aload_n 0, 1) := by decide +kernel
theorem dJ0_charAt_5068e_1 : decode cJ0_charAt_5068e 1 = .ok (.invokevirtual 492, 3) := by decide +kernel
theorem dJ0_charAt_5068e_4 : decode cJ0_charAt_5068e 4 = .ok (.ifCond .eq 12, 3) := by decide +kernel
theorem dJ0_charAt_5068e_7 : decode cJ0_charAt_5068e 7 = .ok (.aload_n 0, 1) := by decide +kernel
theorem dJ0_charAt_5068e_8 : decode cJ0_charAt_5068e 8 = .ok (.getfield 9, 3) := by decide +kernel
theorem dJ0_charAt_5068e_11 : decode cJ0_charAt_5068e 11 = .ok (.iload_n 1, 1) := by decide +kernel
theorem dJ0_charAt_5068e_12 : decode cJ0_charAt_5068e 12 = .ok (.invokestatic 495, 3) := by decide +kernel
theorem dJ0_charAt_5068e_15 : decode cJ0_charAt_5068e 15 = .ok (.ireturn, 1) := by decide +kernel
theorem dJ0_charAt_5068e_16 : decode cJ0_charAt_5068e 16 = .ok (.aload_n 0, 1) := by decide +kernel
theorem dJ0_charAt_5068e_17 : decode cJ0_charAt_5068e 17 = .ok (.getfield 9, 3) := by decide +kernel
theorem dJ0_charAt_5068e_20 : decode cJ0_charAt_5068e 20 = .ok (.iload_n 1, 1) := by decide +kernel
theorem dJ0_charAt_5068e_21 : decode cJ0_charAt_5068e 21 = .ok (.invokestatic 498, 3) := by decide +kernel
theorem dJ0_charAt_5068e_24 : decode cJ0_charAt_5068e 24 = .ok (.ireturn, 1) := by decide +kernel
theorem dJ0_coder_7d493_0 : decode cJ0_coder_7d493 0 = .ok (.getstatic 38, 3) := by decide +kernel
theorem dJ0_coder_7d493_3 : decode cJ0_coder_7d493 3 = .ok (.ifCond .eq 10, 3) := by decide +kernel
theorem dJ0_coder_7d493_6 : decode cJ0_coder_7d493 6 = .ok (.aload_n 0, 1) := by decide +kernel
theorem dJ0_coder_7d493_7 : decode cJ0_coder_7d493 7 = .ok (.getfield 15, 3) := by decide +kernel
theorem dJ0_coder_7d493_10 : decode cJ0_coder_7d493 10 = .ok (.goto 4, 3) := by decide +kernel
theorem dJ0_coder_7d493_13 : decode cJ0_coder_7d493 13 = .ok (.iconst 1, 1) := by decide +kernel
theorem dJ0_coder_7d493_14 : decode cJ0_coder_7d493 14 = .ok (.ireturn, 1) := by decide +kernel
theorem dJ0_isLatin1_aae02_0 : decode cJ0_isLatin1_aae02 0 = .ok (.getstatic 38, 3) := by decide +kernel
theorem dJ0_isLatin1_aae02_3 : decode cJ0_isLatin1_aae02 3 = .ok (.ifCond .eq 14, 3) := by decide +kernel
theorem dJ0_isLatin1_aae02_6 : decode cJ0_isLatin1_aae02 6 = .ok (.aload_n 0, 1) := by decide +kernel
theorem dJ0_isLatin1_aae02_7 : decode cJ0_isLatin1_aae02 7 = .ok (.getfield 15, 3) := by decide +kernel
theorem dJ0_isLatin1_aae02_10 : decode cJ0_isLatin1_aae02 10 = .ok (.ifCond .ne 7, 3) := by decide +kernel
theorem dJ0_isLatin1_aae02_13 : decode cJ0_isLatin1_aae02 13 = .ok (.iconst 1, 1) := by decide +kernel
theorem dJ0_isLatin1_aae02_14 : decode cJ0_isLatin1_aae02 14 = .ok (.goto 4, 3) := by decide +kernel
theorem dJ0_isLatin1_aae02_17 : decode cJ0_isLatin1_aae02 17 = .ok (.iconst 0, 1) := by decide +kernel
theorem dJ0_isLatin1_aae02_18 : decode cJ0_isLatin1_aae02 18 = .ok (.ireturn, 1) := by decide +kernel
theorem dJ0_checkIndex_df160_0 : decode cJ0_checkIndex_df160 0 = .ok (.iload_n 0, 1) := by decide +kernel
theorem dJ0_checkIndex_df160_1 : decode cJ0_checkIndex_df160 1 = .ok (.iload_n 1, 1) := by decide +kernel
theorem dJ0_checkIndex_df160_2 : decode cJ0_checkIndex_df160 2 = .ok (.getstatic 1053, 3) := by decide +kernel
theorem dJ0_checkIndex_df160_5 : decode cJ0_checkIndex_df160 5 = .ok (.invokestatic 1059, 3) := by decide +kernel
theorem dJ0_checkIndex_df160_8 : decode cJ0_checkIndex_df160 8 = .ok (.pop, 1) := by decide +kernel
theorem dJ0_checkIndex_df160_9 : decode cJ0_checkIndex_df160 9 = .ok (.return_, 1) := by decide +kernel
theorem dJ1_charAt_3b067_0 : decode cJ1_charAt_3b067 0 = .ok (.iload_n 1, 1) := by decide +kernel
theorem dJ1_charAt_3b067_1 : decode cJ1_charAt_3b067 1 = .ok (.aload_n 0, 1) := by decide +kernel
theorem dJ1_charAt_3b067_2 : decode cJ1_charAt_3b067 2 = .ok (.arraylength, 1) := by decide +kernel
theorem dJ1_charAt_3b067_3 : decode cJ1_charAt_3b067 3 = .ok (.invokestatic 9, 3) := by decide +kernel
theorem dJ1_charAt_3b067_6 : decode cJ1_charAt_3b067 6 = .ok (.aload_n 0, 1) := by decide +kernel
theorem dJ1_charAt_3b067_7 : decode cJ1_charAt_3b067 7 = .ok (.iload_n 1, 1) := by decide +kernel
theorem dJ1_charAt_3b067_8 : decode cJ1_charAt_3b067 8 = .ok (.baload, 1) := by decide +kernel
theorem dJ1_charAt_3b067_9 : decode cJ1_charAt_3b067 9 = .ok (.sipush 255, 3) := by decide +kernel
theorem dJ1_charAt_3b067_12 : decode cJ1_charAt_3b067 12 = .ok (.iand, 1) := by decide +kernel
theorem dJ1_charAt_3b067_13 : decode cJ1_charAt_3b067 13 = .ok (.i2c, 1) := by decide +kernel
theorem dJ1_charAt_3b067_14 : decode cJ1_charAt_3b067 14 = .ok (.ireturn, 1) := by decide +kernel
theorem dJ2_getChar_3b067_0 : decode cJ2_getChar_3b067 0 = .ok (.getstatic 44, 3) := by decide +kernel
theorem dJ2_getChar_3b067_3 : decode cJ2_getChar_3b067 3 = .ok (.ifCond .ne 25, 3) := by decide +kernel
theorem dJ2_getChar_3b067_6 : decode cJ2_getChar_3b067 6 = .ok (.iload_n 1, 1) := by decide +kernel
theorem dJ2_getChar_3b067_7 : decode cJ2_getChar_3b067 7 = .ok (.ifCond .lt 11, 3) := by decide +kernel
theorem dJ2_getChar_3b067_10 : decode cJ2_getChar_3b067 10 = .ok (.iload_n 1, 1) := by decide +kernel
theorem dJ2_getChar_3b067_11 : decode cJ2_getChar_3b067 11 = .ok (.aload_n 0, 1) := by decide +kernel
theorem dJ2_getChar_3b067_12 : decode cJ2_getChar_3b067 12 = .ok (.invokestatic 48, 3) := by decide +kernel
theorem dJ2_getChar_3b067_15 : decode cJ2_getChar_3b067 15 = .ok (.if_icmp .lt 13, 3) := by decide +kernel
theorem dJ2_getChar_3b067_18 : decode cJ2_getChar_3b067 18 = .ok (.new 52, 3) := by decide +kernel
theorem dJ2_getChar_3b067_21 : decode cJ2_getChar_3b067 21 = .ok (.dup, 1) := by decide +kernel
theorem dJ2_getChar_3b067_22 : decode cJ2_getChar_3b067 22 = .ok (.ldc 54, 2) := by decide +kernel
theorem dJ2_getChar_3b067_24 : decode cJ2_getChar_3b067 24 = .ok (.invokespecial 56, 3) := by decide +kernel
theorem dJ2_getChar_3b067_27 : decode cJ2_getChar_3b067 27 = .ok (.athrow, 1) := by decide +kernel
theorem dJ2_getChar_3b067_28 : decode cJ2_getChar_3b067 28 = .ok (.iload_n 1, 1) := by decide +kernel
theorem dJ2_getChar_3b067_29 : decode cJ2_getChar_3b067 29 = .ok (.iconst 1, 1) := by decide +kernel
theorem dJ2_getChar_3b067_30 : decode cJ2_getChar_3b067 30 = .ok (.ishl, 1) := by decide +kernel
theorem dJ2_getChar_3b067_31 : decode cJ2_getChar_3b067 31 = .ok (.istore_n 1, 1) := by decide +kernel
theorem dJ2_getChar_3b067_32 : decode cJ2_getChar_3b067 32 = .ok (.aload_n 0, 1) := by decide +kernel
theorem dJ2_getChar_3b067_33 : decode cJ2_getChar_3b067 33 = .ok (.iload_n 1, 1) := by decide +kernel
theorem dJ2_getChar_3b067_34 : decode cJ2_getChar_3b067 34 = .ok (.iinc 1 1, 3) := by decide +kernel
theorem dJ2_getChar_3b067_37 : decode cJ2_getChar_3b067 37 = .ok (.baload, 1) := by decide +kernel
theorem dJ2_getChar_3b067_38 : decode cJ2_getChar_3b067 38 = .ok (.sipush 255, 3) := by decide +kernel
theorem dJ2_getChar_3b067_41 : decode cJ2_getChar_3b067 41 = .ok (.iand, 1) := by decide +kernel
theorem dJ2_getChar_3b067_42 : decode cJ2_getChar_3b067 42 = .ok (.getstatic 59, 3) := by decide +kernel
theorem dJ2_getChar_3b067_45 : decode cJ2_getChar_3b067 45 = .ok (.ishl, 1) := by decide +kernel
theorem dJ2_getChar_3b067_46 : decode cJ2_getChar_3b067 46 = .ok (.aload_n 0, 1) := by decide +kernel
theorem dJ2_getChar_3b067_47 : decode cJ2_getChar_3b067 47 = .ok (.iload_n 1, 1) := by decide +kernel
theorem dJ2_getChar_3b067_48 : decode cJ2_getChar_3b067 48 = .ok (.baload, 1) := by decide +kernel
theorem dJ2_getChar_3b067_49 : decode cJ2_getChar_3b067 49 = .ok (.sipush 255, 3) := by decide +kernel
theorem dJ2_getChar_3b067_52 : decode cJ2_getChar_3b067 52 = .ok (.iand, 1) := by decide +kernel
theorem dJ2_getChar_3b067_53 : decode cJ2_getChar_3b067 53 = .ok (.getstatic 63, 3) := by decide +kernel
theorem dJ2_getChar_3b067_56 : decode cJ2_getChar_3b067 56 = .ok (.ishl, 1) := by decide +kernel
theorem dJ2_getChar_3b067_57 : decode cJ2_getChar_3b067 57 = .ok (.ior, 1) := by decide +kernel
theorem dJ2_getChar_3b067_58 : decode cJ2_getChar_3b067 58 = .ok (.i2c, 1) := by decide +kernel
theorem dJ2_getChar_3b067_59 : decode cJ2_getChar_3b067 59 = .ok (.ireturn, 1) := by decide +kernel
theorem dJ2_length_9d52b_0 : decode cJ2_length_9d52b 0 = .ok (.aload_n 0, 1) := by decide +kernel
theorem dJ2_length_9d52b_1 : decode cJ2_length_9d52b 1 = .ok (.arraylength, 1) := by decide +kernel
theorem dJ2_length_9d52b_2 : decode cJ2_length_9d52b 2 = .ok (.iconst 1, 1) := by decide +kernel
theorem dJ2_length_9d52b_3 : decode cJ2_length_9d52b 3 = .ok (.ishr, 1) := by decide +kernel
theorem dJ2_length_9d52b_4 : decode cJ2_length_9d52b 4 = .ok (.ireturn, 1) := by decide +kernel
theorem dJ2_charAt_3b067_0 : decode cJ2_charAt_3b067 0 = .ok (.iload_n 1, 1) := by decide +kernel
theorem dJ2_charAt_3b067_1 : decode cJ2_charAt_3b067 1 = .ok (.aload_n 0, 1) := by decide +kernel
theorem dJ2_charAt_3b067_2 : decode cJ2_charAt_3b067 2 = .ok (.invokestatic 67, 3) := by decide +kernel
theorem dJ2_charAt_3b067_5 : decode cJ2_charAt_3b067 5 = .ok (.aload_n 0, 1) := by decide +kernel
theorem dJ2_charAt_3b067_6 : decode cJ2_charAt_3b067 6 = .ok (.iload_n 1, 1) := by decide +kernel
theorem dJ2_charAt_3b067_7 : decode cJ2_charAt_3b067 7 = .ok (.invokestatic 71, 3) := by decide +kernel
theorem dJ2_charAt_3b067_10 : decode cJ2_charAt_3b067 10 = .ok (.ireturn, 1) := by decide +kernel
theorem dJ2_checkIndex_2214a_0 : decode cJ2_checkIndex_2214a 0 = .ok (.iload_n 0, 1) := by decide +kernel
theorem dJ2_checkIndex_2214a_1 : decode cJ2_checkIndex_2214a 1 = .ok (.aload_n 1, 1) := by decide +kernel
theorem dJ2_checkIndex_2214a_2 : decode cJ2_checkIndex_2214a 2 = .ok (.invokestatic 48, 3) := by decide +kernel
theorem dJ2_checkIndex_2214a_5 : decode cJ2_checkIndex_2214a 5 = .ok (.invokestatic 414, 3) := by decide +kernel
theorem dJ2_checkIndex_2214a_8 : decode cJ2_checkIndex_2214a 8 = .ok (.return_, 1) := by decide +kernel
theorem dJ3_checkIndex_8e157_0 : decode cJ3_checkIndex_8e157 0 = .ok (.iload_n 0, 1) := by decide +kernel
theorem dJ3_checkIndex_8e157_1 : decode cJ3_checkIndex_8e157 1 = .ok (.ifCond .lt 8, 3) := by decide +kernel
theorem dJ3_checkIndex_8e157_4 : decode cJ3_checkIndex_8e157 4 = .ok (.iload_n 0, 1) := by decide +kernel
theorem dJ3_checkIndex_8e157_5 : decode cJ3_checkIndex_8e157 5 = .ok (.iload_n 1, 1) := by decide +kernel
theorem dJ3_checkIndex_8e157_6 : decode cJ3_checkIndex_8e157 6 = .ok (.if_icmp .lt 10, 3) := by decide +kernel
theorem dJ3_checkIndex_8e157_9 : decode cJ3_checkIndex_8e157 9 = .ok (.aload_n 2, 1) := by decide +kernel
theorem dJ3_checkIndex_8e157_10 : decode cJ3_checkIndex_8e157 10 = .ok (.iload_n 0, 1) := by decide +kernel
theorem dJ3_checkIndex_8e157_11 : decode cJ3_checkIndex_8e157 11 = .ok (.iload_n 1, 1) := by decide +kernel
theorem dJ3_checkIndex_8e157_12 : decode cJ3_checkIndex_8e157 12 = .ok (.invokestatic 95, 3) := by decide +kernel
theorem dJ3_checkIndex_8e157_15 : decode cJ3_checkIndex_8e157 15 = .ok (.athrow, 1) := by decide +kernel
theorem dJ3_checkIndex_8e157_16 : decode cJ3_checkIndex_8e157 16 = .ok (.iload_n 0, 1) := by decide +kernel
theorem dJ3_checkIndex_8e157_17 : decode cJ3_checkIndex_8e157 17 = .ok (.ireturn, 1) := by decide +kernel
theorem dL_law_0 : decode cL_law 0 = .ok (.new 7, 3) := by decide +kernel
theorem dL_law_3 : decode cL_law 3 = .ok (.dup, 1) := by decide +kernel
theorem dL_law_4 : decode cL_law 4 = .ok (.invokespecial 9, 3) := by decide +kernel
theorem dL_law_7 : decode cL_law 7 = .ok (.astore_n 1, 1) := by decide +kernel
theorem dL_law_8 : decode cL_law 8 = .ok (.new 10, 3) := by decide +kernel
theorem dL_law_11 : decode cL_law 11 = .ok (.dup, 1) := by decide +kernel
theorem dL_law_12 : decode cL_law 12 = .ok (.invokespecial 12, 3) := by decide +kernel
theorem dL_law_15 : decode cL_law 15 = .ok (.astore_n 2, 1) := by decide +kernel
theorem dL_law_16 : decode cL_law 16 = .ok (.iconst 0, 1) := by decide +kernel
theorem dL_law_17 : decode cL_law 17 = .ok (.istore_n 3, 1) := by decide +kernel
theorem dL_law_18 : decode cL_law 18 = .ok (.iload_n 3, 1) := by decide +kernel
theorem dL_law_19 : decode cL_law 19 = .ok (.aload_n 0, 1) := by decide +kernel
theorem dL_law_20 : decode cL_law 20 = .ok (.arraylength, 1) := by decide +kernel
theorem dL_law_21 : decode cL_law 21 = .ok (.bipush 6, 2) := by decide +kernel
theorem dL_law_23 : decode cL_law 23 = .ok (.isub, 1) := by decide +kernel
theorem dL_law_24 : decode cL_law 24 = .ok (.if_icmp .gt 1330, 3) := by decide +kernel
theorem dL_law_27 : decode cL_law 27 = .ok (.aload_n 0, 1) := by decide +kernel
theorem dL_law_28 : decode cL_law 28 = .ok (.iload_n 3, 1) := by decide +kernel
theorem dL_law_29 : decode cL_law 29 = .ok (.iaload, 1) := by decide +kernel
theorem dL_law_30 : decode cL_law 30 = .ok (.bipush 63, 2) := by decide +kernel
theorem dL_law_32 : decode cL_law 32 = .ok (.iand, 1) := by decide +kernel
theorem dL_law_33 : decode cL_law 33 = .ok (.tableswitch 1315 0 36 #[163, 206, 229, 252, 285, 328, 371, 404, 437, 470, 493, 526, 569, 592, 625, 658, 691, 724, 757, 800, 823, 846, 879, 902, 935, 948, 961, 1004, 1078, 1141, 1164, 1197, 1230, 1243, 1256, 1269, 1292], 163) := by decide +kernel
theorem dL_law_196 : decode cL_law 196 = .ok (.aload_n 1, 1) := by decide +kernel
theorem dL_law_197 : decode cL_law 197 = .ok (.aload_n 0, 1) := by decide +kernel
theorem dL_law_198 : decode cL_law 198 = .ok (.iload_n 3, 1) := by decide +kernel
theorem dL_law_199 : decode cL_law 199 = .ok (.iconst 1, 1) := by decide +kernel
theorem dL_law_200 : decode cL_law 200 = .ok (.iadd, 1) := by decide +kernel
theorem dL_law_201 : decode cL_law 201 = .ok (.iaload, 1) := by decide +kernel
theorem dL_law_202 : decode cL_law 202 = .ok (.aload_n 0, 1) := by decide +kernel
theorem dL_law_203 : decode cL_law 203 = .ok (.iload_n 3, 1) := by decide +kernel
theorem dL_law_204 : decode cL_law 204 = .ok (.iconst 2, 1) := by decide +kernel
theorem dL_law_205 : decode cL_law 205 = .ok (.iadd, 1) := by decide +kernel
theorem dL_law_206 : decode cL_law 206 = .ok (.iaload, 1) := by decide +kernel
theorem dL_law_207 : decode cL_law 207 = .ok (.aload_n 0, 1) := by decide +kernel
theorem dL_law_208 : decode cL_law 208 = .ok (.iload_n 3, 1) := by decide +kernel
theorem dL_law_209 : decode cL_law 209 = .ok (.iconst 3, 1) := by decide +kernel
theorem dL_law_210 : decode cL_law 210 = .ok (.iadd, 1) := by decide +kernel
theorem dL_law_211 : decode cL_law 211 = .ok (.iaload, 1) := by decide +kernel
theorem dL_law_212 : decode cL_law 212 = .ok (.invokevirtual 13, 3) := by decide +kernel
theorem dL_law_215 : decode cL_law 215 = .ok (.aload_n 2, 1) := by decide +kernel
theorem dL_law_216 : decode cL_law 216 = .ok (.aload_n 0, 1) := by decide +kernel
theorem dL_law_217 : decode cL_law 217 = .ok (.iload_n 3, 1) := by decide +kernel
theorem dL_law_218 : decode cL_law 218 = .ok (.iconst 1, 1) := by decide +kernel
theorem dL_law_219 : decode cL_law 219 = .ok (.iadd, 1) := by decide +kernel
theorem dL_law_220 : decode cL_law 220 = .ok (.iaload, 1) := by decide +kernel
theorem dL_law_221 : decode cL_law 221 = .ok (.aload_n 0, 1) := by decide +kernel
theorem dL_law_222 : decode cL_law 222 = .ok (.iload_n 3, 1) := by decide +kernel
theorem dL_law_223 : decode cL_law 223 = .ok (.iconst 2, 1) := by decide +kernel
theorem dL_law_224 : decode cL_law 224 = .ok (.iadd, 1) := by decide +kernel
theorem dL_law_225 : decode cL_law 225 = .ok (.iaload, 1) := by decide +kernel
theorem dL_law_226 : decode cL_law 226 = .ok (.aload_n 0, 1) := by decide +kernel
theorem dL_law_227 : decode cL_law 227 = .ok (.iload_n 3, 1) := by decide +kernel
theorem dL_law_228 : decode cL_law 228 = .ok (.iconst 3, 1) := by decide +kernel
theorem dL_law_229 : decode cL_law 229 = .ok (.iadd, 1) := by decide +kernel
theorem dL_law_230 : decode cL_law 230 = .ok (.iaload, 1) := by decide +kernel
theorem dL_law_231 : decode cL_law 231 = .ok (.invokevirtual 17, 3) := by decide +kernel
theorem dL_law_234 : decode cL_law 234 = .ok (.if_icmp .eq 1114, 3) := by decide +kernel
theorem dL_law_237 : decode cL_law 237 = .ok (.iconst 0, 1) := by decide +kernel
theorem dL_law_238 : decode cL_law 238 = .ok (.ireturn, 1) := by decide +kernel
theorem dL_law_239 : decode cL_law 239 = .ok (.aload_n 1, 1) := by decide +kernel
theorem dL_law_240 : decode cL_law 240 = .ok (.aload_n 0, 1) := by decide +kernel
theorem dL_law_241 : decode cL_law 241 = .ok (.iload_n 3, 1) := by decide +kernel
theorem dL_law_242 : decode cL_law 242 = .ok (.iconst 1, 1) := by decide +kernel
theorem dL_law_243 : decode cL_law 243 = .ok (.iadd, 1) := by decide +kernel
theorem dL_law_244 : decode cL_law 244 = .ok (.iaload, 1) := by decide +kernel
theorem dL_law_245 : decode cL_law 245 = .ok (.invokevirtual 18, 3) := by decide +kernel
theorem dL_law_248 : decode cL_law 248 = .ok (.aload_n 2, 1) := by decide +kernel
theorem dL_law_249 : decode cL_law 249 = .ok (.aload_n 0, 1) := by decide +kernel
theorem dL_law_250 : decode cL_law 250 = .ok (.iload_n 3, 1) := by decide +kernel
theorem dL_law_251 : decode cL_law 251 = .ok (.iconst 1, 1) := by decide +kernel
theorem dL_law_252 : decode cL_law 252 = .ok (.iadd, 1) := by decide +kernel
theorem dL_law_253 : decode cL_law 253 = .ok (.iaload, 1) := by decide +kernel
theorem dL_law_254 : decode cL_law 254 = .ok (.invokevirtual 22, 3) := by decide +kernel
theorem dL_law_257 : decode cL_law 257 = .ok (.if_icmp .eq 1091, 3) := by decide +kernel
theorem dL_law_260 : decode cL_law 260 = .ok (.iconst 0, 1) := by decide +kernel
theorem dL_law_261 : decode cL_law 261 = .ok (.ireturn, 1) := by decide +kernel
theorem dL_law_262 : decode cL_law 262 = .ok (.aload_n 1, 1) := by decide +kernel
theorem dL_law_263 : decode cL_law 263 = .ok (.aload_n 0, 1) := by decide +kernel
theorem dL_law_264 : decode cL_law 264 = .ok (.iload_n 3, 1) := by decide +kernel
theorem dL_law_265 : decode cL_law 265 = .ok (.iconst 1, 1) := by decide +kernel
theorem dL_law_266 : decode cL_law 266 = .ok (.iadd, 1) := by decide +kernel
theorem dL_law_267 : decode cL_law 267 = .ok (.iaload, 1) := by decide +kernel
theorem dL_law_268 : decode cL_law 268 = .ok (.invokevirtual 23, 3) := by decide +kernel
theorem dL_law_271 : decode cL_law 271 = .ok (.aload_n 2, 1) := by decide +kernel
theorem dL_law_272 : decode cL_law 272 = .ok (.aload_n 0, 1) := by decide +kernel
theorem dL_law_273 : decode cL_law 273 = .ok (.iload_n 3, 1) := by decide +kernel
theorem dL_law_274 : decode cL_law 274 = .ok (.iconst 1, 1) := by decide +kernel
theorem dL_law_275 : decode cL_law 275 = .ok (.iadd, 1) := by decide +kernel
theorem dL_law_276 : decode cL_law 276 = .ok (.iaload, 1) := by decide +kernel
theorem dL_law_277 : decode cL_law 277 = .ok (.invokevirtual 26, 3) := by decide +kernel
theorem dL_law_280 : decode cL_law 280 = .ok (.if_icmp .eq 1068, 3) := by decide +kernel
theorem dL_law_283 : decode cL_law 283 = .ok (.iconst 0, 1) := by decide +kernel
theorem dL_law_284 : decode cL_law 284 = .ok (.ireturn, 1) := by decide +kernel
theorem dL_law_285 : decode cL_law 285 = .ok (.aload_n 1, 1) := by decide +kernel
theorem dL_law_286 : decode cL_law 286 = .ok (.aload_n 0, 1) := by decide +kernel
theorem dL_law_287 : decode cL_law 287 = .ok (.iload_n 3, 1) := by decide +kernel
theorem dL_law_288 : decode cL_law 288 = .ok (.iconst 1, 1) := by decide +kernel
theorem dL_law_289 : decode cL_law 289 = .ok (.iadd, 1) := by decide +kernel
theorem dL_law_290 : decode cL_law 290 = .ok (.iaload, 1) := by decide +kernel
theorem dL_law_291 : decode cL_law 291 = .ok (.aload_n 0, 1) := by decide +kernel
theorem dL_law_292 : decode cL_law 292 = .ok (.iload_n 3, 1) := by decide +kernel
theorem dL_law_293 : decode cL_law 293 = .ok (.iconst 2, 1) := by decide +kernel
theorem dL_law_294 : decode cL_law 294 = .ok (.iadd, 1) := by decide +kernel
theorem dL_law_295 : decode cL_law 295 = .ok (.iaload, 1) := by decide +kernel
theorem dL_law_296 : decode cL_law 296 = .ok (.invokevirtual 27, 3) := by decide +kernel
theorem dL_law_299 : decode cL_law 299 = .ok (.aload_n 2, 1) := by decide +kernel
theorem dL_law_300 : decode cL_law 300 = .ok (.aload_n 0, 1) := by decide +kernel
theorem dL_law_301 : decode cL_law 301 = .ok (.iload_n 3, 1) := by decide +kernel
theorem dL_law_302 : decode cL_law 302 = .ok (.iconst 1, 1) := by decide +kernel
theorem dL_law_303 : decode cL_law 303 = .ok (.iadd, 1) := by decide +kernel
theorem dL_law_304 : decode cL_law 304 = .ok (.iaload, 1) := by decide +kernel
theorem dL_law_305 : decode cL_law 305 = .ok (.aload_n 0, 1) := by decide +kernel
theorem dL_law_306 : decode cL_law 306 = .ok (.iload_n 3, 1) := by decide +kernel
theorem dL_law_307 : decode cL_law 307 = .ok (.iconst 2, 1) := by decide +kernel
theorem dL_law_308 : decode cL_law 308 = .ok (.iadd, 1) := by decide +kernel
theorem dL_law_309 : decode cL_law 309 = .ok (.iaload, 1) := by decide +kernel
theorem dL_law_310 : decode cL_law 310 = .ok (.invokevirtual 31, 3) := by decide +kernel
theorem dL_law_313 : decode cL_law 313 = .ok (.if_icmp .eq 1035, 3) := by decide +kernel
theorem dL_law_316 : decode cL_law 316 = .ok (.iconst 0, 1) := by decide +kernel
theorem dL_law_317 : decode cL_law 317 = .ok (.ireturn, 1) := by decide +kernel
theorem dL_law_318 : decode cL_law 318 = .ok (.aload_n 1, 1) := by decide +kernel
theorem dL_law_319 : decode cL_law 319 = .ok (.aload_n 0, 1) := by decide +kernel
theorem dL_law_320 : decode cL_law 320 = .ok (.iload_n 3, 1) := by decide +kernel
theorem dL_law_321 : decode cL_law 321 = .ok (.iconst 1, 1) := by decide +kernel
theorem dL_law_322 : decode cL_law 322 = .ok (.iadd, 1) := by decide +kernel
theorem dL_law_323 : decode cL_law 323 = .ok (.iaload, 1) := by decide +kernel
theorem dL_law_324 : decode cL_law 324 = .ok (.aload_n 0, 1) := by decide +kernel
theorem dL_law_325 : decode cL_law 325 = .ok (.iload_n 3, 1) := by decide +kernel
theorem dL_law_326 : decode cL_law 326 = .ok (.iconst 2, 1) := by decide +kernel
theorem dL_law_327 : decode cL_law 327 = .ok (.iadd, 1) := by decide +kernel
theorem dL_law_328 : decode cL_law 328 = .ok (.iaload, 1) := by decide +kernel
theorem dL_law_329 : decode cL_law 329 = .ok (.aload_n 0, 1) := by decide +kernel
theorem dL_law_330 : decode cL_law 330 = .ok (.iload_n 3, 1) := by decide +kernel
theorem dL_law_331 : decode cL_law 331 = .ok (.iconst 3, 1) := by decide +kernel
theorem dL_law_332 : decode cL_law 332 = .ok (.iadd, 1) := by decide +kernel
theorem dL_law_333 : decode cL_law 333 = .ok (.iaload, 1) := by decide +kernel
theorem dL_law_334 : decode cL_law 334 = .ok (.invokevirtual 32, 3) := by decide +kernel
theorem dL_law_337 : decode cL_law 337 = .ok (.aload_n 2, 1) := by decide +kernel
theorem dL_law_338 : decode cL_law 338 = .ok (.aload_n 0, 1) := by decide +kernel
theorem dL_law_339 : decode cL_law 339 = .ok (.iload_n 3, 1) := by decide +kernel
theorem dL_law_340 : decode cL_law 340 = .ok (.iconst 1, 1) := by decide +kernel
theorem dL_law_341 : decode cL_law 341 = .ok (.iadd, 1) := by decide +kernel
theorem dL_law_342 : decode cL_law 342 = .ok (.iaload, 1) := by decide +kernel
theorem dL_law_343 : decode cL_law 343 = .ok (.aload_n 0, 1) := by decide +kernel
theorem dL_law_344 : decode cL_law 344 = .ok (.iload_n 3, 1) := by decide +kernel
theorem dL_law_345 : decode cL_law 345 = .ok (.iconst 2, 1) := by decide +kernel
theorem dL_law_346 : decode cL_law 346 = .ok (.iadd, 1) := by decide +kernel
theorem dL_law_347 : decode cL_law 347 = .ok (.iaload, 1) := by decide +kernel
theorem dL_law_348 : decode cL_law 348 = .ok (.aload_n 0, 1) := by decide +kernel
theorem dL_law_349 : decode cL_law 349 = .ok (.iload_n 3, 1) := by decide +kernel
theorem dL_law_350 : decode cL_law 350 = .ok (.iconst 3, 1) := by decide +kernel
theorem dL_law_351 : decode cL_law 351 = .ok (.iadd, 1) := by decide +kernel
theorem dL_law_352 : decode cL_law 352 = .ok (.iaload, 1) := by decide +kernel
theorem dL_law_353 : decode cL_law 353 = .ok (.invokevirtual 35, 3) := by decide +kernel
theorem dL_law_356 : decode cL_law 356 = .ok (.if_icmp .eq 992, 3) := by decide +kernel
theorem dL_law_359 : decode cL_law 359 = .ok (.iconst 0, 1) := by decide +kernel
theorem dL_law_360 : decode cL_law 360 = .ok (.ireturn, 1) := by decide +kernel
theorem dL_law_361 : decode cL_law 361 = .ok (.aload_n 1, 1) := by decide +kernel
theorem dL_law_362 : decode cL_law 362 = .ok (.aload_n 0, 1) := by decide +kernel
theorem dL_law_363 : decode cL_law 363 = .ok (.iload_n 3, 1) := by decide +kernel
theorem dL_law_364 : decode cL_law 364 = .ok (.iconst 1, 1) := by decide +kernel
theorem dL_law_365 : decode cL_law 365 = .ok (.iadd, 1) := by decide +kernel
theorem dL_law_366 : decode cL_law 366 = .ok (.iaload, 1) := by decide +kernel
theorem dL_law_367 : decode cL_law 367 = .ok (.aload_n 0, 1) := by decide +kernel
theorem dL_law_368 : decode cL_law 368 = .ok (.iload_n 3, 1) := by decide +kernel
theorem dL_law_369 : decode cL_law 369 = .ok (.iconst 2, 1) := by decide +kernel
theorem dL_law_370 : decode cL_law 370 = .ok (.iadd, 1) := by decide +kernel
theorem dL_law_371 : decode cL_law 371 = .ok (.iaload, 1) := by decide +kernel
theorem dL_law_372 : decode cL_law 372 = .ok (.aload_n 0, 1) := by decide +kernel
theorem dL_law_373 : decode cL_law 373 = .ok (.iload_n 3, 1) := by decide +kernel
theorem dL_law_374 : decode cL_law 374 = .ok (.iconst 3, 1) := by decide +kernel
theorem dL_law_375 : decode cL_law 375 = .ok (.iadd, 1) := by decide +kernel
theorem dL_law_376 : decode cL_law 376 = .ok (.iaload, 1) := by decide +kernel
theorem dL_law_377 : decode cL_law 377 = .ok (.invokevirtual 36, 3) := by decide +kernel
theorem dL_law_380 : decode cL_law 380 = .ok (.aload_n 2, 1) := by decide +kernel
theorem dL_law_381 : decode cL_law 381 = .ok (.aload_n 0, 1) := by decide +kernel
theorem dL_law_382 : decode cL_law 382 = .ok (.iload_n 3, 1) := by decide +kernel
theorem dL_law_383 : decode cL_law 383 = .ok (.iconst 1, 1) := by decide +kernel
theorem dL_law_384 : decode cL_law 384 = .ok (.iadd, 1) := by decide +kernel
theorem dL_law_385 : decode cL_law 385 = .ok (.iaload, 1) := by decide +kernel
theorem dL_law_386 : decode cL_law 386 = .ok (.aload_n 0, 1) := by decide +kernel
theorem dL_law_387 : decode cL_law 387 = .ok (.iload_n 3, 1) := by decide +kernel
theorem dL_law_388 : decode cL_law 388 = .ok (.iconst 2, 1) := by decide +kernel
theorem dL_law_389 : decode cL_law 389 = .ok (.iadd, 1) := by decide +kernel
theorem dL_law_390 : decode cL_law 390 = .ok (.iaload, 1) := by decide +kernel
theorem dL_law_391 : decode cL_law 391 = .ok (.aload_n 0, 1) := by decide +kernel
theorem dL_law_392 : decode cL_law 392 = .ok (.iload_n 3, 1) := by decide +kernel
theorem dL_law_393 : decode cL_law 393 = .ok (.iconst 3, 1) := by decide +kernel
theorem dL_law_394 : decode cL_law 394 = .ok (.iadd, 1) := by decide +kernel
theorem dL_law_395 : decode cL_law 395 = .ok (.iaload, 1) := by decide +kernel
theorem dL_law_396 : decode cL_law 396 = .ok (.invokevirtual 39, 3) := by decide +kernel
theorem dL_law_399 : decode cL_law 399 = .ok (.if_icmp .eq 949, 3) := by decide +kernel
theorem dL_law_402 : decode cL_law 402 = .ok (.iconst 0, 1) := by decide +kernel
theorem dL_law_403 : decode cL_law 403 = .ok (.ireturn, 1) := by decide +kernel
theorem dL_law_404 : decode cL_law 404 = .ok (.aload_n 1, 1) := by decide +kernel
theorem dL_law_405 : decode cL_law 405 = .ok (.aload_n 0, 1) := by decide +kernel
theorem dL_law_406 : decode cL_law 406 = .ok (.iload_n 3, 1) := by decide +kernel
theorem dL_law_407 : decode cL_law 407 = .ok (.iconst 1, 1) := by decide +kernel
theorem dL_law_408 : decode cL_law 408 = .ok (.iadd, 1) := by decide +kernel
theorem dL_law_409 : decode cL_law 409 = .ok (.iaload, 1) := by decide +kernel
theorem dL_law_410 : decode cL_law 410 = .ok (.aload_n 0, 1) := by decide +kernel
theorem dL_law_411 : decode cL_law 411 = .ok (.iload_n 3, 1) := by decide +kernel
theorem dL_law_412 : decode cL_law 412 = .ok (.iconst 2, 1) := by decide +kernel
theorem dL_law_413 : decode cL_law 413 = .ok (.iadd, 1) := by decide +kernel
theorem dL_law_414 : decode cL_law 414 = .ok (.iaload, 1) := by decide +kernel
theorem dL_law_415 : decode cL_law 415 = .ok (.invokevirtual 40, 3) := by decide +kernel
theorem dL_law_418 : decode cL_law 418 = .ok (.aload_n 2, 1) := by decide +kernel
theorem dL_law_419 : decode cL_law 419 = .ok (.aload_n 0, 1) := by decide +kernel
theorem dL_law_420 : decode cL_law 420 = .ok (.iload_n 3, 1) := by decide +kernel
theorem dL_law_421 : decode cL_law 421 = .ok (.iconst 1, 1) := by decide +kernel
theorem dL_law_422 : decode cL_law 422 = .ok (.iadd, 1) := by decide +kernel
theorem dL_law_423 : decode cL_law 423 = .ok (.iaload, 1) := by decide +kernel
theorem dL_law_424 : decode cL_law 424 = .ok (.aload_n 0, 1) := by decide +kernel
theorem dL_law_425 : decode cL_law 425 = .ok (.iload_n 3, 1) := by decide +kernel
theorem dL_law_426 : decode cL_law 426 = .ok (.iconst 2, 1) := by decide +kernel
theorem dL_law_427 : decode cL_law 427 = .ok (.iadd, 1) := by decide +kernel
theorem dL_law_428 : decode cL_law 428 = .ok (.iaload, 1) := by decide +kernel
theorem dL_law_429 : decode cL_law 429 = .ok (.invokevirtual 43, 3) := by decide +kernel
theorem dL_law_432 : decode cL_law 432 = .ok (.if_icmp .eq 916, 3) := by decide +kernel
theorem dL_law_435 : decode cL_law 435 = .ok (.iconst 0, 1) := by decide +kernel
theorem dL_law_436 : decode cL_law 436 = .ok (.ireturn, 1) := by decide +kernel
theorem dL_law_437 : decode cL_law 437 = .ok (.aload_n 1, 1) := by decide +kernel
theorem dL_law_438 : decode cL_law 438 = .ok (.aload_n 0, 1) := by decide +kernel
theorem dL_law_439 : decode cL_law 439 = .ok (.iload_n 3, 1) := by decide +kernel
theorem dL_law_440 : decode cL_law 440 = .ok (.iconst 1, 1) := by decide +kernel
theorem dL_law_441 : decode cL_law 441 = .ok (.iadd, 1) := by decide +kernel
theorem dL_law_442 : decode cL_law 442 = .ok (.iaload, 1) := by decide +kernel
theorem dL_law_443 : decode cL_law 443 = .ok (.aload_n 0, 1) := by decide +kernel
theorem dL_law_444 : decode cL_law 444 = .ok (.iload_n 3, 1) := by decide +kernel
theorem dL_law_445 : decode cL_law 445 = .ok (.iconst 2, 1) := by decide +kernel
theorem dL_law_446 : decode cL_law 446 = .ok (.iadd, 1) := by decide +kernel
theorem dL_law_447 : decode cL_law 447 = .ok (.iaload, 1) := by decide +kernel
theorem dL_law_448 : decode cL_law 448 = .ok (.invokevirtual 44, 3) := by decide +kernel
theorem dL_law_451 : decode cL_law 451 = .ok (.aload_n 2, 1) := by decide +kernel
theorem dL_law_452 : decode cL_law 452 = .ok (.aload_n 0, 1) := by decide +kernel
theorem dL_law_453 : decode cL_law 453 = .ok (.iload_n 3, 1) := by decide +kernel
theorem dL_law_454 : decode cL_law 454 = .ok (.iconst 1, 1) := by decide +kernel
theorem dL_law_455 : decode cL_law 455 = .ok (.iadd, 1) := by decide +kernel
theorem dL_law_456 : decode cL_law 456 = .ok (.iaload, 1) := by decide +kernel
theorem dL_law_457 : decode cL_law 457 = .ok (.aload_n 0, 1) := by decide +kernel
theorem dL_law_458 : decode cL_law 458 = .ok (.iload_n 3, 1) := by decide +kernel
theorem dL_law_459 : decode cL_law 459 = .ok (.iconst 2, 1) := by decide +kernel
theorem dL_law_460 : decode cL_law 460 = .ok (.iadd, 1) := by decide +kernel
theorem dL_law_461 : decode cL_law 461 = .ok (.iaload, 1) := by decide +kernel
theorem dL_law_462 : decode cL_law 462 = .ok (.invokevirtual 47, 3) := by decide +kernel
theorem dL_law_465 : decode cL_law 465 = .ok (.if_icmp .eq 883, 3) := by decide +kernel
theorem dL_law_468 : decode cL_law 468 = .ok (.iconst 0, 1) := by decide +kernel
theorem dL_law_469 : decode cL_law 469 = .ok (.ireturn, 1) := by decide +kernel
theorem dL_law_470 : decode cL_law 470 = .ok (.aload_n 1, 1) := by decide +kernel
theorem dL_law_471 : decode cL_law 471 = .ok (.aload_n 0, 1) := by decide +kernel
theorem dL_law_472 : decode cL_law 472 = .ok (.iload_n 3, 1) := by decide +kernel
theorem dL_law_473 : decode cL_law 473 = .ok (.iconst 1, 1) := by decide +kernel
theorem dL_law_474 : decode cL_law 474 = .ok (.iadd, 1) := by decide +kernel
theorem dL_law_475 : decode cL_law 475 = .ok (.iaload, 1) := by decide +kernel
theorem dL_law_476 : decode cL_law 476 = .ok (.aload_n 0, 1) := by decide +kernel
theorem dL_law_477 : decode cL_law 477 = .ok (.iload_n 3, 1) := by decide +kernel
theorem dL_law_478 : decode cL_law 478 = .ok (.iconst 2, 1) := by decide +kernel
theorem dL_law_479 : decode cL_law 479 = .ok (.iadd, 1) := by decide +kernel
theorem dL_law_480 : decode cL_law 480 = .ok (.iaload, 1) := by decide +kernel
theorem dL_law_481 : decode cL_law 481 = .ok (.invokevirtual 48, 3) := by decide +kernel
theorem dL_law_484 : decode cL_law 484 = .ok (.aload_n 2, 1) := by decide +kernel
theorem dL_law_485 : decode cL_law 485 = .ok (.aload_n 0, 1) := by decide +kernel
theorem dL_law_486 : decode cL_law 486 = .ok (.iload_n 3, 1) := by decide +kernel
theorem dL_law_487 : decode cL_law 487 = .ok (.iconst 1, 1) := by decide +kernel
theorem dL_law_488 : decode cL_law 488 = .ok (.iadd, 1) := by decide +kernel
theorem dL_law_489 : decode cL_law 489 = .ok (.iaload, 1) := by decide +kernel
theorem dL_law_490 : decode cL_law 490 = .ok (.aload_n 0, 1) := by decide +kernel
theorem dL_law_491 : decode cL_law 491 = .ok (.iload_n 3, 1) := by decide +kernel
theorem dL_law_492 : decode cL_law 492 = .ok (.iconst 2, 1) := by decide +kernel
theorem dL_law_493 : decode cL_law 493 = .ok (.iadd, 1) := by decide +kernel
theorem dL_law_494 : decode cL_law 494 = .ok (.iaload, 1) := by decide +kernel
theorem dL_law_495 : decode cL_law 495 = .ok (.invokevirtual 51, 3) := by decide +kernel
theorem dL_law_498 : decode cL_law 498 = .ok (.if_icmp .eq 850, 3) := by decide +kernel
theorem dL_law_501 : decode cL_law 501 = .ok (.iconst 0, 1) := by decide +kernel
theorem dL_law_502 : decode cL_law 502 = .ok (.ireturn, 1) := by decide +kernel
theorem dL_law_503 : decode cL_law 503 = .ok (.aload_n 1, 1) := by decide +kernel
theorem dL_law_504 : decode cL_law 504 = .ok (.aload_n 0, 1) := by decide +kernel
theorem dL_law_505 : decode cL_law 505 = .ok (.iload_n 3, 1) := by decide +kernel
theorem dL_law_506 : decode cL_law 506 = .ok (.iconst 1, 1) := by decide +kernel
theorem dL_law_507 : decode cL_law 507 = .ok (.iadd, 1) := by decide +kernel
theorem dL_law_508 : decode cL_law 508 = .ok (.iaload, 1) := by decide +kernel
theorem dL_law_509 : decode cL_law 509 = .ok (.invokevirtual 52, 3) := by decide +kernel
theorem dL_law_512 : decode cL_law 512 = .ok (.aload_n 2, 1) := by decide +kernel
theorem dL_law_513 : decode cL_law 513 = .ok (.aload_n 0, 1) := by decide +kernel
theorem dL_law_514 : decode cL_law 514 = .ok (.iload_n 3, 1) := by decide +kernel
theorem dL_law_515 : decode cL_law 515 = .ok (.iconst 1, 1) := by decide +kernel
theorem dL_law_516 : decode cL_law 516 = .ok (.iadd, 1) := by decide +kernel
theorem dL_law_517 : decode cL_law 517 = .ok (.iaload, 1) := by decide +kernel
theorem dL_law_518 : decode cL_law 518 = .ok (.invokevirtual 55, 3) := by decide +kernel
theorem dL_law_521 : decode cL_law 521 = .ok (.if_icmp .eq 827, 3) := by decide +kernel
theorem dL_law_524 : decode cL_law 524 = .ok (.iconst 0, 1) := by decide +kernel
theorem dL_law_525 : decode cL_law 525 = .ok (.ireturn, 1) := by decide +kernel
theorem dL_law_526 : decode cL_law 526 = .ok (.aload_n 1, 1) := by decide +kernel
theorem dL_law_527 : decode cL_law 527 = .ok (.aload_n 0, 1) := by decide +kernel
theorem dL_law_528 : decode cL_law 528 = .ok (.iload_n 3, 1) := by decide +kernel
theorem dL_law_529 : decode cL_law 529 = .ok (.iconst 1, 1) := by decide +kernel
theorem dL_law_530 : decode cL_law 530 = .ok (.iadd, 1) := by decide +kernel
theorem dL_law_531 : decode cL_law 531 = .ok (.iaload, 1) := by decide +kernel
theorem dL_law_532 : decode cL_law 532 = .ok (.aload_n 0, 1) := by decide +kernel
theorem dL_law_533 : decode cL_law 533 = .ok (.iload_n 3, 1) := by decide +kernel
theorem dL_law_534 : decode cL_law 534 = .ok (.iconst 2, 1) := by decide +kernel
theorem dL_law_535 : decode cL_law 535 = .ok (.iadd, 1) := by decide +kernel
theorem dL_law_536 : decode cL_law 536 = .ok (.iaload, 1) := by decide +kernel
theorem dL_law_537 : decode cL_law 537 = .ok (.invokevirtual 56, 3) := by decide +kernel
theorem dL_law_540 : decode cL_law 540 = .ok (.aload_n 2, 1) := by decide +kernel
theorem dL_law_541 : decode cL_law 541 = .ok (.aload_n 0, 1) := by decide +kernel
theorem dL_law_542 : decode cL_law 542 = .ok (.iload_n 3, 1) := by decide +kernel
theorem dL_law_543 : decode cL_law 543 = .ok (.iconst 1, 1) := by decide +kernel
theorem dL_law_544 : decode cL_law 544 = .ok (.iadd, 1) := by decide +kernel
theorem dL_law_545 : decode cL_law 545 = .ok (.iaload, 1) := by decide +kernel
theorem dL_law_546 : decode cL_law 546 = .ok (.aload_n 0, 1) := by decide +kernel
theorem dL_law_547 : decode cL_law 547 = .ok (.iload_n 3, 1) := by decide +kernel
theorem dL_law_548 : decode cL_law 548 = .ok (.iconst 2, 1) := by decide +kernel
theorem dL_law_549 : decode cL_law 549 = .ok (.iadd, 1) := by decide +kernel
theorem dL_law_550 : decode cL_law 550 = .ok (.iaload, 1) := by decide +kernel
theorem dL_law_551 : decode cL_law 551 = .ok (.invokevirtual 59, 3) := by decide +kernel
theorem dL_law_554 : decode cL_law 554 = .ok (.if_icmp .eq 794, 3) := by decide +kernel
theorem dL_law_557 : decode cL_law 557 = .ok (.iconst 0, 1) := by decide +kernel
theorem dL_law_558 : decode cL_law 558 = .ok (.ireturn, 1) := by decide +kernel
theorem dL_law_559 : decode cL_law 559 = .ok (.aload_n 1, 1) := by decide +kernel
theorem dL_law_560 : decode cL_law 560 = .ok (.aload_n 0, 1) := by decide +kernel
theorem dL_law_561 : decode cL_law 561 = .ok (.iload_n 3, 1) := by decide +kernel
theorem dL_law_562 : decode cL_law 562 = .ok (.iconst 1, 1) := by decide +kernel
theorem dL_law_563 : decode cL_law 563 = .ok (.iadd, 1) := by decide +kernel
theorem dL_law_564 : decode cL_law 564 = .ok (.iaload, 1) := by decide +kernel
theorem dL_law_565 : decode cL_law 565 = .ok (.aload_n 0, 1) := by decide +kernel
theorem dL_law_566 : decode cL_law 566 = .ok (.iload_n 3, 1) := by decide +kernel
theorem dL_law_567 : decode cL_law 567 = .ok (.iconst 2, 1) := by decide +kernel
theorem dL_law_568 : decode cL_law 568 = .ok (.iadd, 1) := by decide +kernel
theorem dL_law_569 : decode cL_law 569 = .ok (.iaload, 1) := by decide +kernel
theorem dL_law_570 : decode cL_law 570 = .ok (.aload_n 0, 1) := by decide +kernel
theorem dL_law_571 : decode cL_law 571 = .ok (.iload_n 3, 1) := by decide +kernel
theorem dL_law_572 : decode cL_law 572 = .ok (.iconst 3, 1) := by decide +kernel
theorem dL_law_573 : decode cL_law 573 = .ok (.iadd, 1) := by decide +kernel
theorem dL_law_574 : decode cL_law 574 = .ok (.iaload, 1) := by decide +kernel
theorem dL_law_575 : decode cL_law 575 = .ok (.invokevirtual 60, 3) := by decide +kernel
theorem dL_law_578 : decode cL_law 578 = .ok (.aload_n 2, 1) := by decide +kernel
theorem dL_law_579 : decode cL_law 579 = .ok (.aload_n 0, 1) := by decide +kernel
theorem dL_law_580 : decode cL_law 580 = .ok (.iload_n 3, 1) := by decide +kernel
theorem dL_law_581 : decode cL_law 581 = .ok (.iconst 1, 1) := by decide +kernel
theorem dL_law_582 : decode cL_law 582 = .ok (.iadd, 1) := by decide +kernel
theorem dL_law_583 : decode cL_law 583 = .ok (.iaload, 1) := by decide +kernel
theorem dL_law_584 : decode cL_law 584 = .ok (.aload_n 0, 1) := by decide +kernel
theorem dL_law_585 : decode cL_law 585 = .ok (.iload_n 3, 1) := by decide +kernel
theorem dL_law_586 : decode cL_law 586 = .ok (.iconst 2, 1) := by decide +kernel
theorem dL_law_587 : decode cL_law 587 = .ok (.iadd, 1) := by decide +kernel
theorem dL_law_588 : decode cL_law 588 = .ok (.iaload, 1) := by decide +kernel
theorem dL_law_589 : decode cL_law 589 = .ok (.aload_n 0, 1) := by decide +kernel
theorem dL_law_590 : decode cL_law 590 = .ok (.iload_n 3, 1) := by decide +kernel
theorem dL_law_591 : decode cL_law 591 = .ok (.iconst 3, 1) := by decide +kernel
theorem dL_law_592 : decode cL_law 592 = .ok (.iadd, 1) := by decide +kernel
theorem dL_law_593 : decode cL_law 593 = .ok (.iaload, 1) := by decide +kernel
theorem dL_law_594 : decode cL_law 594 = .ok (.invokevirtual 63, 3) := by decide +kernel
theorem dL_law_597 : decode cL_law 597 = .ok (.if_icmp .eq 751, 3) := by decide +kernel
theorem dL_law_600 : decode cL_law 600 = .ok (.iconst 0, 1) := by decide +kernel
theorem dL_law_601 : decode cL_law 601 = .ok (.ireturn, 1) := by decide +kernel
theorem dL_law_602 : decode cL_law 602 = .ok (.aload_n 1, 1) := by decide +kernel
theorem dL_law_603 : decode cL_law 603 = .ok (.aload_n 0, 1) := by decide +kernel
theorem dL_law_604 : decode cL_law 604 = .ok (.iload_n 3, 1) := by decide +kernel
theorem dL_law_605 : decode cL_law 605 = .ok (.iconst 1, 1) := by decide +kernel
theorem dL_law_606 : decode cL_law 606 = .ok (.iadd, 1) := by decide +kernel
theorem dL_law_607 : decode cL_law 607 = .ok (.iaload, 1) := by decide +kernel
theorem dL_law_608 : decode cL_law 608 = .ok (.invokevirtual 64, 3) := by decide +kernel
theorem dL_law_611 : decode cL_law 611 = .ok (.aload_n 2, 1) := by decide +kernel
theorem dL_law_612 : decode cL_law 612 = .ok (.aload_n 0, 1) := by decide +kernel
theorem dL_law_613 : decode cL_law 613 = .ok (.iload_n 3, 1) := by decide +kernel
theorem dL_law_614 : decode cL_law 614 = .ok (.iconst 1, 1) := by decide +kernel
theorem dL_law_615 : decode cL_law 615 = .ok (.iadd, 1) := by decide +kernel
theorem dL_law_616 : decode cL_law 616 = .ok (.iaload, 1) := by decide +kernel
theorem dL_law_617 : decode cL_law 617 = .ok (.invokevirtual 67, 3) := by decide +kernel
theorem dL_law_620 : decode cL_law 620 = .ok (.if_icmp .eq 728, 3) := by decide +kernel
theorem dL_law_623 : decode cL_law 623 = .ok (.iconst 0, 1) := by decide +kernel
theorem dL_law_624 : decode cL_law 624 = .ok (.ireturn, 1) := by decide +kernel
theorem dL_law_625 : decode cL_law 625 = .ok (.aload_n 1, 1) := by decide +kernel
theorem dL_law_626 : decode cL_law 626 = .ok (.aload_n 0, 1) := by decide +kernel
theorem dL_law_627 : decode cL_law 627 = .ok (.iload_n 3, 1) := by decide +kernel
theorem dL_law_628 : decode cL_law 628 = .ok (.iconst 1, 1) := by decide +kernel
theorem dL_law_629 : decode cL_law 629 = .ok (.iadd, 1) := by decide +kernel
theorem dL_law_630 : decode cL_law 630 = .ok (.iaload, 1) := by decide +kernel
theorem dL_law_631 : decode cL_law 631 = .ok (.aload_n 0, 1) := by decide +kernel
theorem dL_law_632 : decode cL_law 632 = .ok (.iload_n 3, 1) := by decide +kernel
theorem dL_law_633 : decode cL_law 633 = .ok (.iconst 2, 1) := by decide +kernel
theorem dL_law_634 : decode cL_law 634 = .ok (.iadd, 1) := by decide +kernel
theorem dL_law_635 : decode cL_law 635 = .ok (.iaload, 1) := by decide +kernel
theorem dL_law_636 : decode cL_law 636 = .ok (.invokevirtual 68, 3) := by decide +kernel
theorem dL_law_639 : decode cL_law 639 = .ok (.aload_n 2, 1) := by decide +kernel
theorem dL_law_640 : decode cL_law 640 = .ok (.aload_n 0, 1) := by decide +kernel
theorem dL_law_641 : decode cL_law 641 = .ok (.iload_n 3, 1) := by decide +kernel
theorem dL_law_642 : decode cL_law 642 = .ok (.iconst 1, 1) := by decide +kernel
theorem dL_law_643 : decode cL_law 643 = .ok (.iadd, 1) := by decide +kernel
theorem dL_law_644 : decode cL_law 644 = .ok (.iaload, 1) := by decide +kernel
theorem dL_law_645 : decode cL_law 645 = .ok (.aload_n 0, 1) := by decide +kernel
theorem dL_law_646 : decode cL_law 646 = .ok (.iload_n 3, 1) := by decide +kernel
theorem dL_law_647 : decode cL_law 647 = .ok (.iconst 2, 1) := by decide +kernel
theorem dL_law_648 : decode cL_law 648 = .ok (.iadd, 1) := by decide +kernel
theorem dL_law_649 : decode cL_law 649 = .ok (.iaload, 1) := by decide +kernel
theorem dL_law_650 : decode cL_law 650 = .ok (.invokevirtual 71, 3) := by decide +kernel
theorem dL_law_653 : decode cL_law 653 = .ok (.if_icmp .eq 695, 3) := by decide +kernel
theorem dL_law_656 : decode cL_law 656 = .ok (.iconst 0, 1) := by decide +kernel
theorem dL_law_657 : decode cL_law 657 = .ok (.ireturn, 1) := by decide +kernel
theorem dL_law_658 : decode cL_law 658 = .ok (.aload_n 1, 1) := by decide +kernel
theorem dL_law_659 : decode cL_law 659 = .ok (.aload_n 0, 1) := by decide +kernel
theorem dL_law_660 : decode cL_law 660 = .ok (.iload_n 3, 1) := by decide +kernel
theorem dL_law_661 : decode cL_law 661 = .ok (.iconst 1, 1) := by decide +kernel
theorem dL_law_662 : decode cL_law 662 = .ok (.iadd, 1) := by decide +kernel
theorem dL_law_663 : decode cL_law 663 = .ok (.iaload, 1) := by decide +kernel
theorem dL_law_664 : decode cL_law 664 = .ok (.aload_n 0, 1) := by decide +kernel
theorem dL_law_665 : decode cL_law 665 = .ok (.iload_n 3, 1) := by decide +kernel
theorem dL_law_666 : decode cL_law 666 = .ok (.iconst 2, 1) := by decide +kernel
theorem dL_law_667 : decode cL_law 667 = .ok (.iadd, 1) := by decide +kernel
theorem dL_law_668 : decode cL_law 668 = .ok (.iaload, 1) := by decide +kernel
theorem dL_law_669 : decode cL_law 669 = .ok (.invokevirtual 72, 3) := by decide +kernel
theorem dL_law_672 : decode cL_law 672 = .ok (.aload_n 2, 1) := by decide +kernel
theorem dL_law_673 : decode cL_law 673 = .ok (.aload_n 0, 1) := by decide +kernel
theorem dL_law_674 : decode cL_law 674 = .ok (.iload_n 3, 1) := by decide +kernel
theorem dL_law_675 : decode cL_law 675 = .ok (.iconst 1, 1) := by decide +kernel
theorem dL_law_676 : decode cL_law 676 = .ok (.iadd, 1) := by decide +kernel
theorem dL_law_677 : decode cL_law 677 = .ok (.iaload, 1) := by decide +kernel
theorem dL_law_678 : decode cL_law 678 = .ok (.aload_n 0, 1) := by decide +kernel
theorem dL_law_679 : decode cL_law 679 = .ok (.iload_n 3, 1) := by decide +kernel
theorem dL_law_680 : decode cL_law 680 = .ok (.iconst 2, 1) := by decide +kernel
theorem dL_law_681 : decode cL_law 681 = .ok (.iadd, 1) := by decide +kernel
theorem dL_law_682 : decode cL_law 682 = .ok (.iaload, 1) := by decide +kernel
theorem dL_law_683 : decode cL_law 683 = .ok (.invokevirtual 75, 3) := by decide +kernel
theorem dL_law_686 : decode cL_law 686 = .ok (.if_icmp .eq 662, 3) := by decide +kernel
theorem dL_law_689 : decode cL_law 689 = .ok (.iconst 0, 1) := by decide +kernel
theorem dL_law_690 : decode cL_law 690 = .ok (.ireturn, 1) := by decide +kernel
theorem dL_law_691 : decode cL_law 691 = .ok (.aload_n 1, 1) := by decide +kernel
theorem dL_law_692 : decode cL_law 692 = .ok (.aload_n 0, 1) := by decide +kernel
theorem dL_law_693 : decode cL_law 693 = .ok (.iload_n 3, 1) := by decide +kernel
theorem dL_law_694 : decode cL_law 694 = .ok (.iconst 1, 1) := by decide +kernel
theorem dL_law_695 : decode cL_law 695 = .ok (.iadd, 1) := by decide +kernel
theorem dL_law_696 : decode cL_law 696 = .ok (.iaload, 1) := by decide +kernel
theorem dL_law_697 : decode cL_law 697 = .ok (.aload_n 0, 1) := by decide +kernel
theorem dL_law_698 : decode cL_law 698 = .ok (.iload_n 3, 1) := by decide +kernel
theorem dL_law_699 : decode cL_law 699 = .ok (.iconst 2, 1) := by decide +kernel
theorem dL_law_700 : decode cL_law 700 = .ok (.iadd, 1) := by decide +kernel
theorem dL_law_701 : decode cL_law 701 = .ok (.iaload, 1) := by decide +kernel
theorem dL_law_702 : decode cL_law 702 = .ok (.invokevirtual 76, 3) := by decide +kernel
theorem dL_law_705 : decode cL_law 705 = .ok (.aload_n 2, 1) := by decide +kernel
theorem dL_law_706 : decode cL_law 706 = .ok (.aload_n 0, 1) := by decide +kernel
theorem dL_law_707 : decode cL_law 707 = .ok (.iload_n 3, 1) := by decide +kernel
theorem dL_law_708 : decode cL_law 708 = .ok (.iconst 1, 1) := by decide +kernel
theorem dL_law_709 : decode cL_law 709 = .ok (.iadd, 1) := by decide +kernel
theorem dL_law_710 : decode cL_law 710 = .ok (.iaload, 1) := by decide +kernel
theorem dL_law_711 : decode cL_law 711 = .ok (.aload_n 0, 1) := by decide +kernel
theorem dL_law_712 : decode cL_law 712 = .ok (.iload_n 3, 1) := by decide +kernel
theorem dL_law_713 : decode cL_law 713 = .ok (.iconst 2, 1) := by decide +kernel
theorem dL_law_714 : decode cL_law 714 = .ok (.iadd, 1) := by decide +kernel
theorem dL_law_715 : decode cL_law 715 = .ok (.iaload, 1) := by decide +kernel
theorem dL_law_716 : decode cL_law 716 = .ok (.invokevirtual 79, 3) := by decide +kernel
theorem dL_law_719 : decode cL_law 719 = .ok (.if_icmp .eq 629, 3) := by decide +kernel
theorem dL_law_722 : decode cL_law 722 = .ok (.iconst 0, 1) := by decide +kernel
theorem dL_law_723 : decode cL_law 723 = .ok (.ireturn, 1) := by decide +kernel
theorem dL_law_724 : decode cL_law 724 = .ok (.aload_n 1, 1) := by decide +kernel
theorem dL_law_725 : decode cL_law 725 = .ok (.aload_n 0, 1) := by decide +kernel
theorem dL_law_726 : decode cL_law 726 = .ok (.iload_n 3, 1) := by decide +kernel
theorem dL_law_727 : decode cL_law 727 = .ok (.iconst 1, 1) := by decide +kernel
theorem dL_law_728 : decode cL_law 728 = .ok (.iadd, 1) := by decide +kernel
theorem dL_law_729 : decode cL_law 729 = .ok (.iaload, 1) := by decide +kernel
theorem dL_law_730 : decode cL_law 730 = .ok (.aload_n 0, 1) := by decide +kernel
theorem dL_law_731 : decode cL_law 731 = .ok (.iload_n 3, 1) := by decide +kernel
theorem dL_law_732 : decode cL_law 732 = .ok (.iconst 2, 1) := by decide +kernel
theorem dL_law_733 : decode cL_law 733 = .ok (.iadd, 1) := by decide +kernel
theorem dL_law_734 : decode cL_law 734 = .ok (.iaload, 1) := by decide +kernel
theorem dL_law_735 : decode cL_law 735 = .ok (.invokevirtual 80, 3) := by decide +kernel
theorem dL_law_738 : decode cL_law 738 = .ok (.aload_n 2, 1) := by decide +kernel
theorem dL_law_739 : decode cL_law 739 = .ok (.aload_n 0, 1) := by decide +kernel
theorem dL_law_740 : decode cL_law 740 = .ok (.iload_n 3, 1) := by decide +kernel
theorem dL_law_741 : decode cL_law 741 = .ok (.iconst 1, 1) := by decide +kernel
theorem dL_law_742 : decode cL_law 742 = .ok (.iadd, 1) := by decide +kernel
theorem dL_law_743 : decode cL_law 743 = .ok (.iaload, 1) := by decide +kernel
theorem dL_law_744 : decode cL_law 744 = .ok (.aload_n 0, 1) := by decide +kernel
theorem dL_law_745 : decode cL_law 745 = .ok (.iload_n 3, 1) := by decide +kernel
theorem dL_law_746 : decode cL_law 746 = .ok (.iconst 2, 1) := by decide +kernel
theorem dL_law_747 : decode cL_law 747 = .ok (.iadd, 1) := by decide +kernel
theorem dL_law_748 : decode cL_law 748 = .ok (.iaload, 1) := by decide +kernel
theorem dL_law_749 : decode cL_law 749 = .ok (.invokevirtual 83, 3) := by decide +kernel
theorem dL_law_752 : decode cL_law 752 = .ok (.if_icmp .eq 596, 3) := by decide +kernel
theorem dL_law_755 : decode cL_law 755 = .ok (.iconst 0, 1) := by decide +kernel
theorem dL_law_756 : decode cL_law 756 = .ok (.ireturn, 1) := by decide +kernel
theorem dL_law_757 : decode cL_law 757 = .ok (.aload_n 1, 1) := by decide +kernel
theorem dL_law_758 : decode cL_law 758 = .ok (.aload_n 0, 1) := by decide +kernel
theorem dL_law_759 : decode cL_law 759 = .ok (.iload_n 3, 1) := by decide +kernel
theorem dL_law_760 : decode cL_law 760 = .ok (.iconst 1, 1) := by decide +kernel
theorem dL_law_761 : decode cL_law 761 = .ok (.iadd, 1) := by decide +kernel
theorem dL_law_762 : decode cL_law 762 = .ok (.iaload, 1) := by decide +kernel
theorem dL_law_763 : decode cL_law 763 = .ok (.aload_n 0, 1) := by decide +kernel
theorem dL_law_764 : decode cL_law 764 = .ok (.iload_n 3, 1) := by decide +kernel
theorem dL_law_765 : decode cL_law 765 = .ok (.iconst 2, 1) := by decide +kernel
theorem dL_law_766 : decode cL_law 766 = .ok (.iadd, 1) := by decide +kernel
theorem dL_law_767 : decode cL_law 767 = .ok (.iaload, 1) := by decide +kernel
theorem dL_law_768 : decode cL_law 768 = .ok (.invokevirtual 84, 3) := by decide +kernel
theorem dL_law_771 : decode cL_law 771 = .ok (.aload_n 2, 1) := by decide +kernel
theorem dL_law_772 : decode cL_law 772 = .ok (.aload_n 0, 1) := by decide +kernel
theorem dL_law_773 : decode cL_law 773 = .ok (.iload_n 3, 1) := by decide +kernel
theorem dL_law_774 : decode cL_law 774 = .ok (.iconst 1, 1) := by decide +kernel
theorem dL_law_775 : decode cL_law 775 = .ok (.iadd, 1) := by decide +kernel
theorem dL_law_776 : decode cL_law 776 = .ok (.iaload, 1) := by decide +kernel
theorem dL_law_777 : decode cL_law 777 = .ok (.aload_n 0, 1) := by decide +kernel
theorem dL_law_778 : decode cL_law 778 = .ok (.iload_n 3, 1) := by decide +kernel
theorem dL_law_779 : decode cL_law 779 = .ok (.iconst 2, 1) := by decide +kernel
theorem dL_law_780 : decode cL_law 780 = .ok (.iadd, 1) := by decide +kernel
theorem dL_law_781 : decode cL_law 781 = .ok (.iaload, 1) := by decide +kernel
theorem dL_law_782 : decode cL_law 782 = .ok (.invokevirtual 87, 3) := by decide +kernel
theorem dL_law_785 : decode cL_law 785 = .ok (.if_icmp .eq 563, 3) := by decide +kernel
theorem dL_law_788 : decode cL_law 788 = .ok (.iconst 0, 1) := by decide +kernel
theorem dL_law_789 : decode cL_law 789 = .ok (.ireturn, 1) := by decide +kernel
theorem dL_law_790 : decode cL_law 790 = .ok (.aload_n 1, 1) := by decide +kernel
theorem dL_law_791 : decode cL_law 791 = .ok (.aload_n 0, 1) := by decide +kernel
theorem dL_law_792 : decode cL_law 792 = .ok (.iload_n 3, 1) := by decide +kernel
theorem dL_law_793 : decode cL_law 793 = .ok (.iconst 1, 1) := by decide +kernel
theorem dL_law_794 : decode cL_law 794 = .ok (.iadd, 1) := by decide +kernel
theorem dL_law_795 : decode cL_law 795 = .ok (.iaload, 1) := by decide +kernel
theorem dL_law_796 : decode cL_law 796 = .ok (.aload_n 0, 1) := by decide +kernel
theorem dL_law_797 : decode cL_law 797 = .ok (.iload_n 3, 1) := by decide +kernel
theorem dL_law_798 : decode cL_law 798 = .ok (.iconst 2, 1) := by decide +kernel
theorem dL_law_799 : decode cL_law 799 = .ok (.iadd, 1) := by decide +kernel
theorem dL_law_800 : decode cL_law 800 = .ok (.iaload, 1) := by decide +kernel
theorem dL_law_801 : decode cL_law 801 = .ok (.aload_n 0, 1) := by decide +kernel
theorem dL_law_802 : decode cL_law 802 = .ok (.iload_n 3, 1) := by decide +kernel
theorem dL_law_803 : decode cL_law 803 = .ok (.iconst 3, 1) := by decide +kernel
theorem dL_law_804 : decode cL_law 804 = .ok (.iadd, 1) := by decide +kernel
theorem dL_law_805 : decode cL_law 805 = .ok (.iaload, 1) := by decide +kernel
theorem dL_law_806 : decode cL_law 806 = .ok (.invokevirtual 88, 3) := by decide +kernel
theorem dL_law_809 : decode cL_law 809 = .ok (.aload_n 2, 1) := by decide +kernel
theorem dL_law_810 : decode cL_law 810 = .ok (.aload_n 0, 1) := by decide +kernel
theorem dL_law_811 : decode cL_law 811 = .ok (.iload_n 3, 1) := by decide +kernel
theorem dL_law_812 : decode cL_law 812 = .ok (.iconst 1, 1) := by decide +kernel
theorem dL_law_813 : decode cL_law 813 = .ok (.iadd, 1) := by decide +kernel
theorem dL_law_814 : decode cL_law 814 = .ok (.iaload, 1) := by decide +kernel
theorem dL_law_815 : decode cL_law 815 = .ok (.aload_n 0, 1) := by decide +kernel
theorem dL_law_816 : decode cL_law 816 = .ok (.iload_n 3, 1) := by decide +kernel
theorem dL_law_817 : decode cL_law 817 = .ok (.iconst 2, 1) := by decide +kernel
theorem dL_law_818 : decode cL_law 818 = .ok (.iadd, 1) := by decide +kernel
theorem dL_law_819 : decode cL_law 819 = .ok (.iaload, 1) := by decide +kernel
theorem dL_law_820 : decode cL_law 820 = .ok (.aload_n 0, 1) := by decide +kernel
theorem dL_law_821 : decode cL_law 821 = .ok (.iload_n 3, 1) := by decide +kernel
theorem dL_law_822 : decode cL_law 822 = .ok (.iconst 3, 1) := by decide +kernel
theorem dL_law_823 : decode cL_law 823 = .ok (.iadd, 1) := by decide +kernel
theorem dL_law_824 : decode cL_law 824 = .ok (.iaload, 1) := by decide +kernel
theorem dL_law_825 : decode cL_law 825 = .ok (.invokevirtual 91, 3) := by decide +kernel
theorem dL_law_828 : decode cL_law 828 = .ok (.if_icmp .eq 520, 3) := by decide +kernel
theorem dL_law_831 : decode cL_law 831 = .ok (.iconst 0, 1) := by decide +kernel
theorem dL_law_832 : decode cL_law 832 = .ok (.ireturn, 1) := by decide +kernel
theorem dL_law_833 : decode cL_law 833 = .ok (.aload_n 1, 1) := by decide +kernel
theorem dL_law_834 : decode cL_law 834 = .ok (.aload_n 0, 1) := by decide +kernel
theorem dL_law_835 : decode cL_law 835 = .ok (.iload_n 3, 1) := by decide +kernel
theorem dL_law_836 : decode cL_law 836 = .ok (.iconst 1, 1) := by decide +kernel
theorem dL_law_837 : decode cL_law 837 = .ok (.iadd, 1) := by decide +kernel
theorem dL_law_838 : decode cL_law 838 = .ok (.iaload, 1) := by decide +kernel
theorem dL_law_839 : decode cL_law 839 = .ok (.invokevirtual 92, 3) := by decide +kernel
theorem dL_law_842 : decode cL_law 842 = .ok (.aload_n 2, 1) := by decide +kernel
theorem dL_law_843 : decode cL_law 843 = .ok (.aload_n 0, 1) := by decide +kernel
theorem dL_law_844 : decode cL_law 844 = .ok (.iload_n 3, 1) := by decide +kernel
theorem dL_law_845 : decode cL_law 845 = .ok (.iconst 1, 1) := by decide +kernel
theorem dL_law_846 : decode cL_law 846 = .ok (.iadd, 1) := by decide +kernel
theorem dL_law_847 : decode cL_law 847 = .ok (.iaload, 1) := by decide +kernel
theorem dL_law_848 : decode cL_law 848 = .ok (.invokevirtual 95, 3) := by decide +kernel
theorem dL_law_851 : decode cL_law 851 = .ok (.if_icmp .eq 497, 3) := by decide +kernel
theorem dL_law_854 : decode cL_law 854 = .ok (.iconst 0, 1) := by decide +kernel
theorem dL_law_855 : decode cL_law 855 = .ok (.ireturn, 1) := by decide +kernel
theorem dL_law_856 : decode cL_law 856 = .ok (.aload_n 1, 1) := by decide +kernel
theorem dL_law_857 : decode cL_law 857 = .ok (.aload_n 0, 1) := by decide +kernel
theorem dL_law_858 : decode cL_law 858 = .ok (.iload_n 3, 1) := by decide +kernel
theorem dL_law_859 : decode cL_law 859 = .ok (.iconst 1, 1) := by decide +kernel
theorem dL_law_860 : decode cL_law 860 = .ok (.iadd, 1) := by decide +kernel
theorem dL_law_861 : decode cL_law 861 = .ok (.iaload, 1) := by decide +kernel
theorem dL_law_862 : decode cL_law 862 = .ok (.invokevirtual 96, 3) := by decide +kernel
theorem dL_law_865 : decode cL_law 865 = .ok (.aload_n 2, 1) := by decide +kernel
theorem dL_law_866 : decode cL_law 866 = .ok (.aload_n 0, 1) := by decide +kernel
theorem dL_law_867 : decode cL_law 867 = .ok (.iload_n 3, 1) := by decide +kernel
theorem dL_law_868 : decode cL_law 868 = .ok (.iconst 1, 1) := by decide +kernel
theorem dL_law_869 : decode cL_law 869 = .ok (.iadd, 1) := by decide +kernel
theorem dL_law_870 : decode cL_law 870 = .ok (.iaload, 1) := by decide +kernel
theorem dL_law_871 : decode cL_law 871 = .ok (.invokevirtual 99, 3) := by decide +kernel
theorem dL_law_874 : decode cL_law 874 = .ok (.if_icmp .eq 474, 3) := by decide +kernel
theorem dL_law_877 : decode cL_law 877 = .ok (.iconst 0, 1) := by decide +kernel
theorem dL_law_878 : decode cL_law 878 = .ok (.ireturn, 1) := by decide +kernel
theorem dL_law_879 : decode cL_law 879 = .ok (.aload_n 1, 1) := by decide +kernel
theorem dL_law_880 : decode cL_law 880 = .ok (.aload_n 0, 1) := by decide +kernel
theorem dL_law_881 : decode cL_law 881 = .ok (.iload_n 3, 1) := by decide +kernel
theorem dL_law_882 : decode cL_law 882 = .ok (.iconst 1, 1) := by decide +kernel
theorem dL_law_883 : decode cL_law 883 = .ok (.iadd, 1) := by decide +kernel
theorem dL_law_884 : decode cL_law 884 = .ok (.iaload, 1) := by decide +kernel
theorem dL_law_885 : decode cL_law 885 = .ok (.aload_n 0, 1) := by decide +kernel
theorem dL_law_886 : decode cL_law 886 = .ok (.iload_n 3, 1) := by decide +kernel
theorem dL_law_887 : decode cL_law 887 = .ok (.iconst 2, 1) := by decide +kernel
theorem dL_law_888 : decode cL_law 888 = .ok (.iadd, 1) := by decide +kernel
theorem dL_law_889 : decode cL_law 889 = .ok (.iaload, 1) := by decide +kernel
theorem dL_law_890 : decode cL_law 890 = .ok (.invokevirtual 100, 3) := by decide +kernel
theorem dL_law_893 : decode cL_law 893 = .ok (.aload_n 2, 1) := by decide +kernel
theorem dL_law_894 : decode cL_law 894 = .ok (.aload_n 0, 1) := by decide +kernel
theorem dL_law_895 : decode cL_law 895 = .ok (.iload_n 3, 1) := by decide +kernel
theorem dL_law_896 : decode cL_law 896 = .ok (.iconst 1, 1) := by decide +kernel
theorem dL_law_897 : decode cL_law 897 = .ok (.iadd, 1) := by decide +kernel
theorem dL_law_898 : decode cL_law 898 = .ok (.iaload, 1) := by decide +kernel
theorem dL_law_899 : decode cL_law 899 = .ok (.aload_n 0, 1) := by decide +kernel
theorem dL_law_900 : decode cL_law 900 = .ok (.iload_n 3, 1) := by decide +kernel
theorem dL_law_901 : decode cL_law 901 = .ok (.iconst 2, 1) := by decide +kernel
theorem dL_law_902 : decode cL_law 902 = .ok (.iadd, 1) := by decide +kernel
theorem dL_law_903 : decode cL_law 903 = .ok (.iaload, 1) := by decide +kernel
theorem dL_law_904 : decode cL_law 904 = .ok (.invokevirtual 103, 3) := by decide +kernel
theorem dL_law_907 : decode cL_law 907 = .ok (.if_icmp .eq 441, 3) := by decide +kernel
theorem dL_law_910 : decode cL_law 910 = .ok (.iconst 0, 1) := by decide +kernel
theorem dL_law_911 : decode cL_law 911 = .ok (.ireturn, 1) := by decide +kernel
theorem dL_law_912 : decode cL_law 912 = .ok (.aload_n 1, 1) := by decide +kernel
theorem dL_law_913 : decode cL_law 913 = .ok (.aload_n 0, 1) := by decide +kernel
theorem dL_law_914 : decode cL_law 914 = .ok (.iload_n 3, 1) := by decide +kernel
theorem dL_law_915 : decode cL_law 915 = .ok (.iconst 1, 1) := by decide +kernel
theorem dL_law_916 : decode cL_law 916 = .ok (.iadd, 1) := by decide +kernel
theorem dL_law_917 : decode cL_law 917 = .ok (.iaload, 1) := by decide +kernel
theorem dL_law_918 : decode cL_law 918 = .ok (.invokevirtual 104, 3) := by decide +kernel
theorem dL_law_921 : decode cL_law 921 = .ok (.aload_n 2, 1) := by decide +kernel
theorem dL_law_922 : decode cL_law 922 = .ok (.aload_n 0, 1) := by decide +kernel
theorem dL_law_923 : decode cL_law 923 = .ok (.iload_n 3, 1) := by decide +kernel
theorem dL_law_924 : decode cL_law 924 = .ok (.iconst 1, 1) := by decide +kernel
theorem dL_law_925 : decode cL_law 925 = .ok (.iadd, 1) := by decide +kernel
theorem dL_law_926 : decode cL_law 926 = .ok (.iaload, 1) := by decide +kernel
theorem dL_law_927 : decode cL_law 927 = .ok (.invokevirtual 107, 3) := by decide +kernel
theorem dL_law_930 : decode cL_law 930 = .ok (.if_icmp .eq 418, 3) := by decide +kernel
theorem dL_law_933 : decode cL_law 933 = .ok (.iconst 0, 1) := by decide +kernel
theorem dL_law_934 : decode cL_law 934 = .ok (.ireturn, 1) := by decide +kernel
theorem dL_law_935 : decode cL_law 935 = .ok (.aload_n 1, 1) := by decide +kernel
theorem dL_law_936 : decode cL_law 936 = .ok (.aload_n 0, 1) := by decide +kernel
theorem dL_law_937 : decode cL_law 937 = .ok (.iload_n 3, 1) := by decide +kernel
theorem dL_law_938 : decode cL_law 938 = .ok (.iconst 1, 1) := by decide +kernel
theorem dL_law_939 : decode cL_law 939 = .ok (.iadd, 1) := by decide +kernel
theorem dL_law_940 : decode cL_law 940 = .ok (.iaload, 1) := by decide +kernel
theorem dL_law_941 : decode cL_law 941 = .ok (.aload_n 0, 1) := by decide +kernel
theorem dL_law_942 : decode cL_law 942 = .ok (.iload_n 3, 1) := by decide +kernel
theorem dL_law_943 : decode cL_law 943 = .ok (.iconst 2, 1) := by decide +kernel
theorem dL_law_944 : decode cL_law 944 = .ok (.iadd, 1) := by decide +kernel
theorem dL_law_945 : decode cL_law 945 = .ok (.iaload, 1) := by decide +kernel
theorem dL_law_946 : decode cL_law 946 = .ok (.invokevirtual 108, 3) := by decide +kernel
theorem dL_law_949 : decode cL_law 949 = .ok (.aload_n 2, 1) := by decide +kernel
theorem dL_law_950 : decode cL_law 950 = .ok (.aload_n 0, 1) := by decide +kernel
theorem dL_law_951 : decode cL_law 951 = .ok (.iload_n 3, 1) := by decide +kernel
theorem dL_law_952 : decode cL_law 952 = .ok (.iconst 1, 1) := by decide +kernel
theorem dL_law_953 : decode cL_law 953 = .ok (.iadd, 1) := by decide +kernel
theorem dL_law_954 : decode cL_law 954 = .ok (.iaload, 1) := by decide +kernel
theorem dL_law_955 : decode cL_law 955 = .ok (.aload_n 0, 1) := by decide +kernel
theorem dL_law_956 : decode cL_law 956 = .ok (.iload_n 3, 1) := by decide +kernel
theorem dL_law_957 : decode cL_law 957 = .ok (.iconst 2, 1) := by decide +kernel
theorem dL_law_958 : decode cL_law 958 = .ok (.iadd, 1) := by decide +kernel
theorem dL_law_959 : decode cL_law 959 = .ok (.iaload, 1) := by decide +kernel
theorem dL_law_960 : decode cL_law 960 = .ok (.invokevirtual 111, 3) := by decide +kernel
theorem dL_law_963 : decode cL_law 963 = .ok (.if_icmp .eq 385, 3) := by decide +kernel
theorem dL_law_966 : decode cL_law 966 = .ok (.iconst 0, 1) := by decide +kernel
theorem dL_law_967 : decode cL_law 967 = .ok (.ireturn, 1) := by decide +kernel
theorem dL_law_968 : decode cL_law 968 = .ok (.aload_n 1, 1) := by decide +kernel
theorem dL_law_969 : decode cL_law 969 = .ok (.invokevirtual 112, 3) := by decide +kernel
theorem dL_law_972 : decode cL_law 972 = .ok (.aload_n 2, 1) := by decide +kernel
theorem dL_law_973 : decode cL_law 973 = .ok (.invokevirtual 116, 3) := by decide +kernel
theorem dL_law_976 : decode cL_law 976 = .ok (.if_icmp .eq 372, 3) := by decide +kernel
theorem dL_law_979 : decode cL_law 979 = .ok (.iconst 0, 1) := by decide +kernel
theorem dL_law_980 : decode cL_law 980 = .ok (.ireturn, 1) := by decide +kernel
theorem dL_law_981 : decode cL_law 981 = .ok (.aload_n 1, 1) := by decide +kernel
theorem dL_law_982 : decode cL_law 982 = .ok (.invokevirtual 117, 3) := by decide +kernel
theorem dL_law_985 : decode cL_law 985 = .ok (.aload_n 2, 1) := by decide +kernel
theorem dL_law_986 : decode cL_law 986 = .ok (.invokevirtual 120, 3) := by decide +kernel
theorem dL_law_989 : decode cL_law 989 = .ok (.if_icmp .eq 359, 3) := by decide +kernel
theorem dL_law_992 : decode cL_law 992 = .ok (.iconst 0, 1) := by decide +kernel
theorem dL_law_993 : decode cL_law 993 = .ok (.ireturn, 1) := by decide +kernel
theorem dL_law_994 : decode cL_law 994 = .ok (.aload_n 1, 1) := by decide +kernel
theorem dL_law_995 : decode cL_law 995 = .ok (.aload_n 0, 1) := by decide +kernel
theorem dL_law_996 : decode cL_law 996 = .ok (.iload_n 3, 1) := by decide +kernel
theorem dL_law_997 : decode cL_law 997 = .ok (.iconst 1, 1) := by decide +kernel
theorem dL_law_998 : decode cL_law 998 = .ok (.iadd, 1) := by decide +kernel
theorem dL_law_999 : decode cL_law 999 = .ok (.iaload, 1) := by decide +kernel
theorem dL_law_1000 : decode cL_law 1000 = .ok (.aload_n 0, 1) := by decide +kernel
theorem dL_law_1001 : decode cL_law 1001 = .ok (.iload_n 3, 1) := by decide +kernel
theorem dL_law_1002 : decode cL_law 1002 = .ok (.iconst 2, 1) := by decide +kernel
theorem dL_law_1003 : decode cL_law 1003 = .ok (.iadd, 1) := by decide +kernel
theorem dL_law_1004 : decode cL_law 1004 = .ok (.iaload, 1) := by decide +kernel
theorem dL_law_1005 : decode cL_law 1005 = .ok (.aload_n 0, 1) := by decide +kernel
theorem dL_law_1006 : decode cL_law 1006 = .ok (.iload_n 3, 1) := by decide +kernel
theorem dL_law_1007 : decode cL_law 1007 = .ok (.iconst 3, 1) := by decide +kernel
theorem dL_law_1008 : decode cL_law 1008 = .ok (.iadd, 1) := by decide +kernel
theorem dL_law_1009 : decode cL_law 1009 = .ok (.iaload, 1) := by decide +kernel
theorem dL_law_1010 : decode cL_law 1010 = .ok (.invokevirtual 121, 3) := by decide +kernel
theorem dL_law_1013 : decode cL_law 1013 = .ok (.aload_n 2, 1) := by decide +kernel
theorem dL_law_1014 : decode cL_law 1014 = .ok (.aload_n 0, 1) := by decide +kernel
theorem dL_law_1015 : decode cL_law 1015 = .ok (.iload_n 3, 1) := by decide +kernel
theorem dL_law_1016 : decode cL_law 1016 = .ok (.iconst 1, 1) := by decide +kernel
theorem dL_law_1017 : decode cL_law 1017 = .ok (.iadd, 1) := by decide +kernel
theorem dL_law_1018 : decode cL_law 1018 = .ok (.iaload, 1) := by decide +kernel
theorem dL_law_1019 : decode cL_law 1019 = .ok (.aload_n 0, 1) := by decide +kernel
theorem dL_law_1020 : decode cL_law 1020 = .ok (.iload_n 3, 1) := by decide +kernel
theorem dL_law_1021 : decode cL_law 1021 = .ok (.iconst 2, 1) := by decide +kernel
theorem dL_law_1022 : decode cL_law 1022 = .ok (.iadd, 1) := by decide +kernel
theorem dL_law_1023 : decode cL_law 1023 = .ok (.iaload, 1) := by decide +kernel
theorem dL_law_1024 : decode cL_law 1024 = .ok (.aload_n 0, 1) := by decide +kernel
theorem dL_law_1025 : decode cL_law 1025 = .ok (.iload_n 3, 1) := by decide +kernel
theorem dL_law_1026 : decode cL_law 1026 = .ok (.iconst 3, 1) := by decide +kernel
theorem dL_law_1027 : decode cL_law 1027 = .ok (.iadd, 1) := by decide +kernel
theorem dL_law_1028 : decode cL_law 1028 = .ok (.iaload, 1) := by decide +kernel
theorem dL_law_1029 : decode cL_law 1029 = .ok (.invokevirtual 124, 3) := by decide +kernel
theorem dL_law_1032 : decode cL_law 1032 = .ok (.if_icmp .eq 316, 3) := by decide +kernel
theorem dL_law_1035 : decode cL_law 1035 = .ok (.iconst 0, 1) := by decide +kernel
theorem dL_law_1036 : decode cL_law 1036 = .ok (.ireturn, 1) := by decide +kernel
theorem dL_law_1037 : decode cL_law 1037 = .ok (.aload_n 1, 1) := by decide +kernel
theorem dL_law_1038 : decode cL_law 1038 = .ok (.aload_n 0, 1) := by decide +kernel
theorem dL_law_1039 : decode cL_law 1039 = .ok (.iload_n 3, 1) := by decide +kernel
theorem dL_law_1040 : decode cL_law 1040 = .ok (.iconst 1, 1) := by decide +kernel
theorem dL_law_1041 : decode cL_law 1041 = .ok (.iadd, 1) := by decide +kernel
theorem dL_law_1042 : decode cL_law 1042 = .ok (.iaload, 1) := by decide +kernel
theorem dL_law_1043 : decode cL_law 1043 = .ok (.aload_n 0, 1) := by decide +kernel
theorem dL_law_1044 : decode cL_law 1044 = .ok (.iload_n 3, 1) := by decide +kernel
theorem dL_law_1045 : decode cL_law 1045 = .ok (.iconst 2, 1) := by decide +kernel
theorem dL_law_1046 : decode cL_law 1046 = .ok (.iadd, 1) := by decide +kernel
theorem dL_law_1047 : decode cL_law 1047 = .ok (.iaload, 1) := by decide +kernel
theorem dL_law_1048 : decode cL_law 1048 = .ok (.aload_n 0, 1) := by decide +kernel
theorem dL_law_1049 : decode cL_law 1049 = .ok (.iload_n 3, 1) := by decide +kernel
theorem dL_law_1050 : decode cL_law 1050 = .ok (.iconst 3, 1) := by decide +kernel
theorem dL_law_1051 : decode cL_law 1051 = .ok (.iadd, 1) := by decide +kernel
theorem dL_law_1052 : decode cL_law 1052 = .ok (.iaload, 1) := by decide +kernel
theorem dL_law_1053 : decode cL_law 1053 = .ok (.i2l, 1) := by decide +kernel
theorem dL_law_1054 : decode cL_law 1054 = .ok (.bipush 32, 2) := by decide +kernel
theorem dL_law_1056 : decode cL_law 1056 = .ok (.lshl, 1) := by decide +kernel
theorem dL_law_1057 : decode cL_law 1057 = .ok (.aload_n 0, 1) := by decide +kernel
theorem dL_law_1058 : decode cL_law 1058 = .ok (.iload_n 3, 1) := by decide +kernel
theorem dL_law_1059 : decode cL_law 1059 = .ok (.iconst 4, 1) := by decide +kernel
theorem dL_law_1060 : decode cL_law 1060 = .ok (.iadd, 1) := by decide +kernel
theorem dL_law_1061 : decode cL_law 1061 = .ok (.iaload, 1) := by decide +kernel
theorem dL_law_1062 : decode cL_law 1062 = .ok (.i2l, 1) := by decide +kernel
theorem dL_law_1063 : decode cL_law 1063 = .ok (.ldc2_w 125, 3) := by decide +kernel
theorem dL_law_1066 : decode cL_law 1066 = .ok (.land, 1) := by decide +kernel
theorem dL_law_1067 : decode cL_law 1067 = .ok (.lor, 1) := by decide +kernel
theorem dL_law_1068 : decode cL_law 1068 = .ok (.invokevirtual 127, 3) := by decide +kernel
theorem dL_law_1071 : decode cL_law 1071 = .ok (.aload_n 2, 1) := by decide +kernel
theorem dL_law_1072 : decode cL_law 1072 = .ok (.aload_n 0, 1) := by decide +kernel
theorem dL_law_1073 : decode cL_law 1073 = .ok (.iload_n 3, 1) := by decide +kernel
theorem dL_law_1074 : decode cL_law 1074 = .ok (.iconst 1, 1) := by decide +kernel
theorem dL_law_1075 : decode cL_law 1075 = .ok (.iadd, 1) := by decide +kernel
theorem dL_law_1076 : decode cL_law 1076 = .ok (.iaload, 1) := by decide +kernel
theorem dL_law_1077 : decode cL_law 1077 = .ok (.aload_n 0, 1) := by decide +kernel
theorem dL_law_1078 : decode cL_law 1078 = .ok (.iload_n 3, 1) := by decide +kernel
theorem dL_law_1079 : decode cL_law 1079 = .ok (.iconst 2, 1) := by decide +kernel
theorem dL_law_1080 : decode cL_law 1080 = .ok (.iadd, 1) := by decide +kernel
theorem dL_law_1081 : decode cL_law 1081 = .ok (.iaload, 1) := by decide +kernel
theorem dL_law_1082 : decode cL_law 1082 = .ok (.aload_n 0, 1) := by decide +kernel
theorem dL_law_1083 : decode cL_law 1083 = .ok (.iload_n 3, 1) := by decide +kernel
theorem dL_law_1084 : decode cL_law 1084 = .ok (.iconst 3, 1) := by decide +kernel
theorem dL_law_1085 : decode cL_law 1085 = .ok (.iadd, 1) := by decide +kernel
theorem dL_law_1086 : decode cL_law 1086 = .ok (.iaload, 1) := by decide +kernel
theorem dL_law_1087 : decode cL_law 1087 = .ok (.i2l, 1) := by decide +kernel
theorem dL_law_1088 : decode cL_law 1088 = .ok (.bipush 32, 2) := by decide +kernel
theorem dL_law_1090 : decode cL_law 1090 = .ok (.lshl, 1) := by decide +kernel
theorem dL_law_1091 : decode cL_law 1091 = .ok (.aload_n 0, 1) := by decide +kernel
theorem dL_law_1092 : decode cL_law 1092 = .ok (.iload_n 3, 1) := by decide +kernel
theorem dL_law_1093 : decode cL_law 1093 = .ok (.iconst 4, 1) := by decide +kernel
theorem dL_law_1094 : decode cL_law 1094 = .ok (.iadd, 1) := by decide +kernel
theorem dL_law_1095 : decode cL_law 1095 = .ok (.iaload, 1) := by decide +kernel
theorem dL_law_1096 : decode cL_law 1096 = .ok (.i2l, 1) := by decide +kernel
theorem dL_law_1097 : decode cL_law 1097 = .ok (.ldc2_w 125, 3) := by decide +kernel
theorem dL_law_1100 : decode cL_law 1100 = .ok (.land, 1) := by decide +kernel
theorem dL_law_1101 : decode cL_law 1101 = .ok (.lor, 1) := by decide +kernel
theorem dL_law_1102 : decode cL_law 1102 = .ok (.invokevirtual 131, 3) := by decide +kernel
theorem dL_law_1105 : decode cL_law 1105 = .ok (.lcmp, 1) := by decide +kernel
theorem dL_law_1106 : decode cL_law 1106 = .ok (.ifCond .eq 242, 3) := by decide +kernel
theorem dL_law_1109 : decode cL_law 1109 = .ok (.iconst 0, 1) := by decide +kernel
theorem dL_law_1110 : decode cL_law 1110 = .ok (.ireturn, 1) := by decide +kernel
theorem dL_law_1111 : decode cL_law 1111 = .ok (.aload_n 1, 1) := by decide +kernel
theorem dL_law_1112 : decode cL_law 1112 = .ok (.aload_n 0, 1) := by decide +kernel
theorem dL_law_1113 : decode cL_law 1113 = .ok (.iload_n 3, 1) := by decide +kernel
theorem dL_law_1114 : decode cL_law 1114 = .ok (.iconst 1, 1) := by decide +kernel
theorem dL_law_1115 : decode cL_law 1115 = .ok (.iadd, 1) := by decide +kernel
theorem dL_law_1116 : decode cL_law 1116 = .ok (.iaload, 1) := by decide +kernel
theorem dL_law_1117 : decode cL_law 1117 = .ok (.aload_n 0, 1) := by decide +kernel
theorem dL_law_1118 : decode cL_law 1118 = .ok (.iload_n 3, 1) := by decide +kernel
theorem dL_law_1119 : decode cL_law 1119 = .ok (.iconst 2, 1) := by decide +kernel
theorem dL_law_1120 : decode cL_law 1120 = .ok (.iadd, 1) := by decide +kernel
theorem dL_law_1121 : decode cL_law 1121 = .ok (.iaload, 1) := by decide +kernel
theorem dL_law_1122 : decode cL_law 1122 = .ok (.aload_n 0, 1) := by decide +kernel
theorem dL_law_1123 : decode cL_law 1123 = .ok (.iload_n 3, 1) := by decide +kernel
theorem dL_law_1124 : decode cL_law 1124 = .ok (.iconst 3, 1) := by decide +kernel
theorem dL_law_1125 : decode cL_law 1125 = .ok (.iadd, 1) := by decide +kernel
theorem dL_law_1126 : decode cL_law 1126 = .ok (.iaload, 1) := by decide +kernel
theorem dL_law_1127 : decode cL_law 1127 = .ok (.aload_n 0, 1) := by decide +kernel
theorem dL_law_1128 : decode cL_law 1128 = .ok (.iload_n 3, 1) := by decide +kernel
theorem dL_law_1129 : decode cL_law 1129 = .ok (.iconst 4, 1) := by decide +kernel
theorem dL_law_1130 : decode cL_law 1130 = .ok (.iadd, 1) := by decide +kernel
theorem dL_law_1131 : decode cL_law 1131 = .ok (.iaload, 1) := by decide +kernel
theorem dL_law_1132 : decode cL_law 1132 = .ok (.aload_n 0, 1) := by decide +kernel
theorem dL_law_1133 : decode cL_law 1133 = .ok (.iload_n 3, 1) := by decide +kernel
theorem dL_law_1134 : decode cL_law 1134 = .ok (.iconst 5, 1) := by decide +kernel
theorem dL_law_1135 : decode cL_law 1135 = .ok (.iadd, 1) := by decide +kernel
theorem dL_law_1136 : decode cL_law 1136 = .ok (.iaload, 1) := by decide +kernel
theorem dL_law_1137 : decode cL_law 1137 = .ok (.invokevirtual 132, 3) := by decide +kernel
theorem dL_law_1140 : decode cL_law 1140 = .ok (.aload_n 2, 1) := by decide +kernel
theorem dL_law_1141 : decode cL_law 1141 = .ok (.aload_n 0, 1) := by decide +kernel
theorem dL_law_1142 : decode cL_law 1142 = .ok (.iload_n 3, 1) := by decide +kernel
theorem dL_law_1143 : decode cL_law 1143 = .ok (.iconst 1, 1) := by decide +kernel
theorem dL_law_1144 : decode cL_law 1144 = .ok (.iadd, 1) := by decide +kernel
theorem dL_law_1145 : decode cL_law 1145 = .ok (.iaload, 1) := by decide +kernel
theorem dL_law_1146 : decode cL_law 1146 = .ok (.aload_n 0, 1) := by decide +kernel
theorem dL_law_1147 : decode cL_law 1147 = .ok (.iload_n 3, 1) := by decide +kernel
theorem dL_law_1148 : decode cL_law 1148 = .ok (.iconst 2, 1) := by decide +kernel
theorem dL_law_1149 : decode cL_law 1149 = .ok (.iadd, 1) := by decide +kernel
theorem dL_law_1150 : decode cL_law 1150 = .ok (.iaload, 1) := by decide +kernel
theorem dL_law_1151 : decode cL_law 1151 = .ok (.aload_n 0, 1) := by decide +kernel
theorem dL_law_1152 : decode cL_law 1152 = .ok (.iload_n 3, 1) := by decide +kernel
theorem dL_law_1153 : decode cL_law 1153 = .ok (.iconst 3, 1) := by decide +kernel
theorem dL_law_1154 : decode cL_law 1154 = .ok (.iadd, 1) := by decide +kernel
theorem dL_law_1155 : decode cL_law 1155 = .ok (.iaload, 1) := by decide +kernel
theorem dL_law_1156 : decode cL_law 1156 = .ok (.aload_n 0, 1) := by decide +kernel
theorem dL_law_1157 : decode cL_law 1157 = .ok (.iload_n 3, 1) := by decide +kernel
theorem dL_law_1158 : decode cL_law 1158 = .ok (.iconst 4, 1) := by decide +kernel
theorem dL_law_1159 : decode cL_law 1159 = .ok (.iadd, 1) := by decide +kernel
theorem dL_law_1160 : decode cL_law 1160 = .ok (.iaload, 1) := by decide +kernel
theorem dL_law_1161 : decode cL_law 1161 = .ok (.aload_n 0, 1) := by decide +kernel
theorem dL_law_1162 : decode cL_law 1162 = .ok (.iload_n 3, 1) := by decide +kernel
theorem dL_law_1163 : decode cL_law 1163 = .ok (.iconst 5, 1) := by decide +kernel
theorem dL_law_1164 : decode cL_law 1164 = .ok (.iadd, 1) := by decide +kernel
theorem dL_law_1165 : decode cL_law 1165 = .ok (.iaload, 1) := by decide +kernel
theorem dL_law_1166 : decode cL_law 1166 = .ok (.invokevirtual 136, 3) := by decide +kernel
theorem dL_law_1169 : decode cL_law 1169 = .ok (.if_icmp .eq 179, 3) := by decide +kernel
theorem dL_law_1172 : decode cL_law 1172 = .ok (.iconst 0, 1) := by decide +kernel
theorem dL_law_1173 : decode cL_law 1173 = .ok (.ireturn, 1) := by decide +kernel
theorem dL_law_1174 : decode cL_law 1174 = .ok (.aload_n 1, 1) := by decide +kernel
theorem dL_law_1175 : decode cL_law 1175 = .ok (.aload_n 0, 1) := by decide +kernel
theorem dL_law_1176 : decode cL_law 1176 = .ok (.iload_n 3, 1) := by decide +kernel
theorem dL_law_1177 : decode cL_law 1177 = .ok (.iconst 1, 1) := by decide +kernel
theorem dL_law_1178 : decode cL_law 1178 = .ok (.iadd, 1) := by decide +kernel
theorem dL_law_1179 : decode cL_law 1179 = .ok (.iaload, 1) := by decide +kernel
theorem dL_law_1180 : decode cL_law 1180 = .ok (.invokevirtual 137, 3) := by decide +kernel
theorem dL_law_1183 : decode cL_law 1183 = .ok (.aload_n 2, 1) := by decide +kernel
theorem dL_law_1184 : decode cL_law 1184 = .ok (.aload_n 0, 1) := by decide +kernel
theorem dL_law_1185 : decode cL_law 1185 = .ok (.iload_n 3, 1) := by decide +kernel
theorem dL_law_1186 : decode cL_law 1186 = .ok (.iconst 1, 1) := by decide +kernel
theorem dL_law_1187 : decode cL_law 1187 = .ok (.iadd, 1) := by decide +kernel
theorem dL_law_1188 : decode cL_law 1188 = .ok (.iaload, 1) := by decide +kernel
theorem dL_law_1189 : decode cL_law 1189 = .ok (.invokevirtual 140, 3) := by decide +kernel
theorem dL_law_1192 : decode cL_law 1192 = .ok (.if_icmp .eq 156, 3) := by decide +kernel
theorem dL_law_1195 : decode cL_law 1195 = .ok (.iconst 0, 1) := by decide +kernel
theorem dL_law_1196 : decode cL_law 1196 = .ok (.ireturn, 1) := by decide +kernel
theorem dL_law_1197 : decode cL_law 1197 = .ok (.aload_n 1, 1) := by decide +kernel
theorem dL_law_1198 : decode cL_law 1198 = .ok (.aload_n 0, 1) := by decide +kernel
theorem dL_law_1199 : decode cL_law 1199 = .ok (.iload_n 3, 1) := by decide +kernel
theorem dL_law_1200 : decode cL_law 1200 = .ok (.iconst 1, 1) := by decide +kernel
theorem dL_law_1201 : decode cL_law 1201 = .ok (.iadd, 1) := by decide +kernel
theorem dL_law_1202 : decode cL_law 1202 = .ok (.iaload, 1) := by decide +kernel
theorem dL_law_1203 : decode cL_law 1203 = .ok (.aload_n 0, 1) := by decide +kernel
theorem dL_law_1204 : decode cL_law 1204 = .ok (.iload_n 3, 1) := by decide +kernel
theorem dL_law_1205 : decode cL_law 1205 = .ok (.iconst 2, 1) := by decide +kernel
theorem dL_law_1206 : decode cL_law 1206 = .ok (.iadd, 1) := by decide +kernel
theorem dL_law_1207 : decode cL_law 1207 = .ok (.iaload, 1) := by decide +kernel
theorem dL_law_1208 : decode cL_law 1208 = .ok (.invokevirtual 141, 3) := by decide +kernel
theorem dL_law_1211 : decode cL_law 1211 = .ok (.aload_n 2, 1) := by decide +kernel
theorem dL_law_1212 : decode cL_law 1212 = .ok (.aload_n 0, 1) := by decide +kernel
theorem dL_law_1213 : decode cL_law 1213 = .ok (.iload_n 3, 1) := by decide +kernel
theorem dL_law_1214 : decode cL_law 1214 = .ok (.iconst 1, 1) := by decide +kernel
theorem dL_law_1215 : decode cL_law 1215 = .ok (.iadd, 1) := by decide +kernel
theorem dL_law_1216 : decode cL_law 1216 = .ok (.iaload, 1) := by decide +kernel
theorem dL_law_1217 : decode cL_law 1217 = .ok (.aload_n 0, 1) := by decide +kernel
theorem dL_law_1218 : decode cL_law 1218 = .ok (.iload_n 3, 1) := by decide +kernel
theorem dL_law_1219 : decode cL_law 1219 = .ok (.iconst 2, 1) := by decide +kernel
theorem dL_law_1220 : decode cL_law 1220 = .ok (.iadd, 1) := by decide +kernel
theorem dL_law_1221 : decode cL_law 1221 = .ok (.iaload, 1) := by decide +kernel
theorem dL_law_1222 : decode cL_law 1222 = .ok (.invokevirtual 144, 3) := by decide +kernel
theorem dL_law_1225 : decode cL_law 1225 = .ok (.if_icmp .eq 123, 3) := by decide +kernel
theorem dL_law_1228 : decode cL_law 1228 = .ok (.iconst 0, 1) := by decide +kernel
theorem dL_law_1229 : decode cL_law 1229 = .ok (.ireturn, 1) := by decide +kernel
theorem dL_law_1230 : decode cL_law 1230 = .ok (.aload_n 1, 1) := by decide +kernel
theorem dL_law_1231 : decode cL_law 1231 = .ok (.aload_n 0, 1) := by decide +kernel
theorem dL_law_1232 : decode cL_law 1232 = .ok (.iload_n 3, 1) := by decide +kernel
theorem dL_law_1233 : decode cL_law 1233 = .ok (.iconst 1, 1) := by decide +kernel
theorem dL_law_1234 : decode cL_law 1234 = .ok (.iadd, 1) := by decide +kernel
theorem dL_law_1235 : decode cL_law 1235 = .ok (.iaload, 1) := by decide +kernel
theorem dL_law_1236 : decode cL_law 1236 = .ok (.aload_n 0, 1) := by decide +kernel
theorem dL_law_1237 : decode cL_law 1237 = .ok (.iload_n 3, 1) := by decide +kernel
theorem dL_law_1238 : decode cL_law 1238 = .ok (.iconst 2, 1) := by decide +kernel
theorem dL_law_1239 : decode cL_law 1239 = .ok (.iadd, 1) := by decide +kernel
theorem dL_law_1240 : decode cL_law 1240 = .ok (.iaload, 1) := by decide +kernel
theorem dL_law_1241 : decode cL_law 1241 = .ok (.invokevirtual 145, 3) := by decide +kernel
theorem dL_law_1244 : decode cL_law 1244 = .ok (.aload_n 2, 1) := by decide +kernel
theorem dL_law_1245 : decode cL_law 1245 = .ok (.aload_n 0, 1) := by decide +kernel
theorem dL_law_1246 : decode cL_law 1246 = .ok (.iload_n 3, 1) := by decide +kernel
theorem dL_law_1247 : decode cL_law 1247 = .ok (.iconst 1, 1) := by decide +kernel
theorem dL_law_1248 : decode cL_law 1248 = .ok (.iadd, 1) := by decide +kernel
end
section
theorem dL_law_1249 : decode cL_law 1249 = .ok (.iaload, 1) := by decide +kernel
theorem dL_law_1250 : decode cL_law 1250 = .ok (.aload_n 0, 1) := by decide +kernel
theorem dL_law_1251 : decode cL_law 1251 = .ok (.iload_n 3, 1) := by decide +kernel
theorem dL_law_1252 : decode cL_law 1252 = .ok (.iconst 2, 1) := by decide +kernel
theorem dL_law_1253 : decode cL_law 1253 = .ok (.iadd, 1) := by decide +kernel
theorem dL_law_1254 : decode cL_law 1254 = .ok (.iaload, 1) := by decide +kernel
theorem dL_law_1255 : decode cL_law 1255 = .ok (.invokevirtual 148, 3) := by decide +kernel
theorem dL_law_1258 : decode cL_law 1258 = .ok (.if_icmp .eq 90, 3) := by decide +kernel
theorem dL_law_1261 : decode cL_law 1261 = .ok (.iconst 0, 1) := by decide +kernel
theorem dL_law_1262 : decode cL_law 1262 = .ok (.ireturn, 1) := by decide +kernel
theorem dL_law_1263 : decode cL_law 1263 = .ok (.aload_n 1, 1) := by decide +kernel
theorem dL_law_1264 : decode cL_law 1264 = .ok (.invokevirtual 149, 3) := by decide +kernel
theorem dL_law_1267 : decode cL_law 1267 = .ok (.aload_n 2, 1) := by decide +kernel
theorem dL_law_1268 : decode cL_law 1268 = .ok (.invokevirtual 152, 3) := by decide +kernel
theorem dL_law_1271 : decode cL_law 1271 = .ok (.if_icmp .eq 77, 3) := by decide +kernel
theorem dL_law_1274 : decode cL_law 1274 = .ok (.iconst 0, 1) := by decide +kernel
theorem dL_law_1275 : decode cL_law 1275 = .ok (.ireturn, 1) := by decide +kernel
theorem dL_law_1276 : decode cL_law 1276 = .ok (.aload_n 1, 1) := by decide +kernel
theorem dL_law_1277 : decode cL_law 1277 = .ok (.invokevirtual 153, 3) := by decide +kernel
theorem dL_law_1280 : decode cL_law 1280 = .ok (.aload_n 2, 1) := by decide +kernel
theorem dL_law_1281 : decode cL_law 1281 = .ok (.invokevirtual 156, 3) := by decide +kernel
theorem dL_law_1284 : decode cL_law 1284 = .ok (.if_icmp .eq 64, 3) := by decide +kernel
theorem dL_law_1287 : decode cL_law 1287 = .ok (.iconst 0, 1) := by decide +kernel
theorem dL_law_1288 : decode cL_law 1288 = .ok (.ireturn, 1) := by decide +kernel
theorem dL_law_1289 : decode cL_law 1289 = .ok (.aload_n 1, 1) := by decide +kernel
theorem dL_law_1290 : decode cL_law 1290 = .ok (.invokevirtual 157, 3) := by decide +kernel
theorem dL_law_1293 : decode cL_law 1293 = .ok (.aload_n 2, 1) := by decide +kernel
theorem dL_law_1294 : decode cL_law 1294 = .ok (.invokevirtual 160, 3) := by decide +kernel
theorem dL_law_1297 : decode cL_law 1297 = .ok (.if_icmp .eq 51, 3) := by decide +kernel
theorem dL_law_1300 : decode cL_law 1300 = .ok (.iconst 0, 1) := by decide +kernel
theorem dL_law_1301 : decode cL_law 1301 = .ok (.ireturn, 1) := by decide +kernel
theorem dL_law_1302 : decode cL_law 1302 = .ok (.aload_n 1, 1) := by decide +kernel
theorem dL_law_1303 : decode cL_law 1303 = .ok (.aload_n 0, 1) := by decide +kernel
theorem dL_law_1304 : decode cL_law 1304 = .ok (.iload_n 3, 1) := by decide +kernel
theorem dL_law_1305 : decode cL_law 1305 = .ok (.iconst 1, 1) := by decide +kernel
theorem dL_law_1306 : decode cL_law 1306 = .ok (.iadd, 1) := by decide +kernel
theorem dL_law_1307 : decode cL_law 1307 = .ok (.iaload, 1) := by decide +kernel
theorem dL_law_1308 : decode cL_law 1308 = .ok (.invokevirtual 161, 3) := by decide +kernel
theorem dL_law_1311 : decode cL_law 1311 = .ok (.aload_n 2, 1) := by decide +kernel
theorem dL_law_1312 : decode cL_law 1312 = .ok (.aload_n 0, 1) := by decide +kernel
theorem dL_law_1313 : decode cL_law 1313 = .ok (.iload_n 3, 1) := by decide +kernel
theorem dL_law_1314 : decode cL_law 1314 = .ok (.iconst 1, 1) := by decide +kernel
theorem dL_law_1315 : decode cL_law 1315 = .ok (.iadd, 1) := by decide +kernel
theorem dL_law_1316 : decode cL_law 1316 = .ok (.iaload, 1) := by decide +kernel
theorem dL_law_1317 : decode cL_law 1317 = .ok (.invokevirtual 164, 3) := by decide +kernel
theorem dL_law_1320 : decode cL_law 1320 = .ok (.if_icmp .eq 28, 3) := by decide +kernel
theorem dL_law_1323 : decode cL_law 1323 = .ok (.iconst 0, 1) := by decide +kernel
theorem dL_law_1324 : decode cL_law 1324 = .ok (.ireturn, 1) := by decide +kernel
theorem dL_law_1325 : decode cL_law 1325 = .ok (.aload_n 1, 1) := by decide +kernel
theorem dL_law_1326 : decode cL_law 1326 = .ok (.aload_n 0, 1) := by decide +kernel
theorem dL_law_1327 : decode cL_law 1327 = .ok (.iload_n 3, 1) := by decide +kernel
theorem dL_law_1328 : decode cL_law 1328 = .ok (.iconst 1, 1) := by decide +kernel
theorem dL_law_1329 : decode cL_law 1329 = .ok (.iadd, 1) := by decide +kernel
theorem dL_law_1330 : decode cL_law 1330 = .ok (.iaload, 1) := by decide +kernel
theorem dL_law_1331 : decode cL_law 1331 = .ok (.invokevirtual 165, 3) := by decide +kernel
theorem dL_law_1334 : decode cL_law 1334 = .ok (.aload_n 2, 1) := by decide +kernel
theorem dL_law_1335 : decode cL_law 1335 = .ok (.aload_n 0, 1) := by decide +kernel
theorem dL_law_1336 : decode cL_law 1336 = .ok (.iload_n 3, 1) := by decide +kernel
theorem dL_law_1337 : decode cL_law 1337 = .ok (.iconst 1, 1) := by decide +kernel
theorem dL_law_1338 : decode cL_law 1338 = .ok (.iadd, 1) := by decide +kernel
theorem dL_law_1339 : decode cL_law 1339 = .ok (.iaload, 1) := by decide +kernel
theorem dL_law_1340 : decode cL_law 1340 = .ok (.invokevirtual 168, 3) := by decide +kernel
theorem dL_law_1343 : decode cL_law 1343 = .ok (.if_icmp .eq 5, 3) := by decide +kernel
theorem dL_law_1346 : decode cL_law 1346 = .ok (.iconst 0, 1) := by decide +kernel
theorem dL_law_1347 : decode cL_law 1347 = .ok (.ireturn, 1) := by decide +kernel
theorem dL_law_1348 : decode cL_law 1348 = .ok (.iinc 3 6, 3) := by decide +kernel
theorem dL_law_1351 : decode cL_law 1351 = .ok (.goto (-1333), 3) := by decide +kernel
theorem dL_law_1354 : decode cL_law 1354 = .ok (.iconst 1, 1) := by decide +kernel
theorem dL_law_1355 : decode cL_law 1355 = .ok (.ireturn, 1) := by decide +kernel
end
section
def st_idx : List Nat := [38, 115, 117, 119, 121, 123, 47, 52, 103, 105, 107, 109, 111, 113, 73]
def st_tx : List String := ["cue", "sob", "laugh", "cough", "clap", "still", "tense", "swap", "cougher", "weeper", "sleeper", "claque", "widow", "sitter", "fresh"]
def st_len : List Nat := [3, 3, 5, 5, 4, 5, 5, 4, 7, 6, 7, 6, 5, 6, 5]
def st_byt : List (List Int32) := [[99, 117, 101], [115, 111, 98], [108, 97, 117, 103, 104], [99, 111, 117, 103, 104], [99, 108, 97, 112], [115, 116, 105, 108, 108], [116, 101, 110, 115, 101], [115, 119, 97, 112], [99, 111, 117, 103, 104, 101, 114], [119, 101, 101, 112, 101, 114], [115, 108, 101, 101, 112, 101, 114], [99, 108, 97, 113, 117, 101], [119, 105, 100, 111, 119], [115, 105, 116, 116, 101, 114], [102, 114, 101, 115, 104]]
/-! BASE: one environment for all methods (the tables' words, the tables' classes, the statics and literals), one form of contract, the rows for calls and returns over it -/
abbrev FI : Type := Nat → Int32
abbrev FL : Type := Nat → Int64
abbrev EV : Type := va_G × (Nat → ClassId) × Nat × (Nat → Nat) × (Nat → Nat)
def tysE (E : EV) : List (ClassId × FieldType) := [(E.2.1 0, .int), (E.2.1 1, .long), (E.2.1 2, .byte), (E.2.1 3, .object "NotedHouse$Sheet")]
def wkN : Cond → Bool
  | .fieldLinkNest _ _ _ _ _ _ => true
  | .methodLinkNest _ _ _ _ => true
  | w => goodWord w
/-- the words that hold on, wherever a call goes -/
def tbl : List Cond := lw_tbl.filter wkN
theorem tb_in {w : Cond} (h : w ∈ lw_tbl) (hk : wkN w = true) : w ∈ tbl := List.mem_filter.mpr ⟨h, hk⟩
theorem tb_ok : ∀ w ∈ tbl, wkN w = true := fun _ hw => (List.mem_filter.mp hw).2
theorem tb_warm {s U : State} (hW : s.WarmedH U.vm) (w : Cond) (hk : wkN w = true) {a0 : Array Value} (h : w.before a0 s = true) (a : Array Value) : w.before a U = true := by
  cases w
  all_goals first
    | exact word_at hW (good_of_word hk) h
    | exact va_Nw.use rfl (va_Nw.warmF hW (va_Nw.of rfl h))
    | exact va_Nw.use rfl (va_Nw.warmM hW (va_Nw.of rfl h))
def ka_f (j : Nat) : Int32 := [(-1 : Int32), 0, 0, 0, 1, 2].getD j 0
def EvS (E : EV) (A : Nat → Prop) (U : State) : Prop :=
  va_Z "NotedHouse" "KIND_ABOVE" "[I" (.ref E.2.2.1) A U U.heap ∧ va_T .int E.2.2.1 6 (fun j => .int (ka_f j)) A U U.heap ∧
  va_Z "java/lang/String" "COMPACT_STRINGS" "Z" (.int 1) A U U.heap ∧ va_Zq "jdk/internal/util/Preconditions" "SIOOBE_FORMATTER" "Ljava/util/function/BiFunction;" A U U.heap ∧
  vk_S 15 st_len st_byt E.2.2.2.1 E.2.2.2.2 A U U.heap ∧ ∀ i, i < 15 → vk_R "NotedHouse$Text" (st_idx.getD i 0) (st_tx.getD i "") (E.2.2.2.1 i) U
def Ev (E : EV) (A : Nat → Prop) (U : State) : Prop := (∀ w ∈ tbl, ∀ a : Array Value, w.before a U = true) ∧ va_K E.1 vwCl (tysE E) U ∧ EvS E A U
theorem Ev.w {E : EV} {A : Nat → Prop} {s : State} (hE : Ev E A s) {w : Cond} (hw : w ∈ tbl) {args : Array Value} : w.before args s = true := hE.1 w hw args
theorem Ev.go {E : EV} {A B : Nat → Prop} {s U : State} {H : Heap} {locs : List Loc} (hE : Ev E A s) (hS : va_S A s.heap H locs) (hU : U.heap = H) (hW : s.WarmedH U.vm) (hB : ∀ q, B q → A q) : Ev E B U := by
  obtain ⟨h1, h2, z1, z2, z3, z4, z5, z6⟩ := hE
  subst hU
  have hk : ∀ a : Nat, a < s.heap.size → ¬ A a → U.heap[a]? = s.heap[a]? := hS.2.1
  refine ⟨fun w hw a => tb_warm hW w (tb_ok w hw) (h1 w hw #[]) a, va_K.moved hW.alike h2, ?_, ?_, ?_, ?_, ?_, ?_⟩
  · exact ((z1.kept hk).narrow hB).moved hW.alike
  · exact ((z2.kept hk).narrow hB).moved hW.alike
  · exact ((z3.kept hk).narrow hB).moved hW.alike
  · exact ((z4.kept hk).narrow hB).moved hW.alike
  · exact ((z5.kept hk).narrow hB).moved hW.alike
  · exact fun i hi => (z6 i hi).warm hW
theorem Ev.call {E : EV} {A : Nat → Prop} {U : State} (hE : Ev E A U) (g : JFrame) (mk : MethodId) (a : Array Value) : Ev E A (U.calling g mk a) :=
  Ev.go (H := U.heap) (locs := []) hE va_S.rf rfl (State.WarmedH.refl U) (fun _ h => h)
/-- a room of f frames and n words of locals, without cells -/
abbrev rmk (f n : Nat) : Room := { frames := f, cells := 0, slots := 0, locals := n }
def Pct (E : EV) (av : List Value) (w0 : va_W) (sz : Nat) : Array Value → State → Prop := va_Pc av (fun U => U.heap.size = sz ∧ va_P E.1 vwCl w0 U.heap ∧ va_D (fun _ => True) w0 ∧ Ev E (va_A w0 sz) U)
def Qct (E : EV) (A : Nat → Prop) (w1 : va_W) (ov : Option Value) : Array Value → State → Outcome → State → Prop := fun _ st oc t => oc = .returned ov ∧ va_P E.1 vwCl w1 t.heap ∧ va_D A w1 ∧ va_F A st t
/-- THE CONTRACT: from the world w0 the method y answers ov and leaves the world w1 -/
def Ct (l : Launch) (E : EV) (y : MethodName) (bytes : ByteArray) (maxL : Nat) (ret : Option FieldType) (rm : Room) (av : List Value) (w0 w1 : va_W) (ov : Option Value) : Prop :=
  ∀ sz : Nat, Met l y [Cond.code y bytes maxL ret] rm (Pct E av w0 sz) (Qct E (va_A w0 sz) w1 ov) 0 0 (va_A w0 sz)
theorem Pct.blind {E : EV} {av : List Value} {w0 : va_W} {sz : Nat} : FrameBlind (Pct E av w0 sz) := by
  intro a U g mk q
  obtain ⟨q0, q1, qP, qD, qE⟩ := q
  exact ⟨q0, q1, qP, qD, qE.call g mk a⟩
/-- what a walk of a method's body has at hand -/
def Cx (E : EV) (y : MethodName) (bytes : ByteArray) (maxL : Nat) (ret : Option FieldType) (p : Program) (s : State) (m : MethodId) (meth : Method) (c : Code) (A : Nat → Prop) : Prop :=
  p.tables.exec = Jvm.exec ∧ c.code = bytes ∧ meth.sig.returnType = ret ∧ c.maxLocals = maxL ∧ s.vm.findClass y.cls = some m.cls ∧ meth.locks = false ∧ Ev E A s ∧ ∀ q : Nat, s.heap.size ≤ q → A q
theorem Ct.of {l : Launch} {E : EV} {y : MethodName} {bytes : ByteArray} {maxL : Nat} {ret : Option FieldType} {rm : Room} {av : List Value} {w0 w1 : va_W} {ov : Option Value} (hy : plainName y.cls = true) (hlen : (lg_sl av).length ≤ maxL)
    (body : ∀ (p : Program) (e : Env) (s : State) (m : MethodId) (below : List Frame) (meth : Method) (c : Code) (A : Nat → Prop) (ls : Array Slot), Cx E y bytes maxL ret p s m meth c A → va_P E.1 vwCl w0 s.heap → va_D A w0 → lv_has ls maxL (lv_args 0 av) →
      W p l e rm s m av.toArray below meth c s.heap [] 0 0 (MQ below (Qct E A w1 ov) av.toArray s 0 0 A) (F0 m 0 ls [])) : Ct l E y bytes maxL ret rm av w0 w1 ov := by
  intro sz
  refine Met.ofW (cc := bytes) (maxL := maxL) (ret := ret) hy rfl ?_
  intro p e s m args below meth c s₁ B hml hv
  obtain ⟨rfl, hsz, hP, hD0, hE⟩ := hv
  subst hsz
  have hD := hD0.self (sz := s.heap.size)
  generalize hAe : va_A w0 s.heap.size = A at hD hE ⊢
  have hA : ∀ q : Nat, s.heap.size ≤ q → A q := fun q h => by rw [← hAe]; exact Or.inr h
  rw [lg_entry_eq]
  exact body p e s m below meth c A _ ⟨B.exec, B.bytes, B.returns, hml, findClass_of_methodNamed B.named, B.notSynchronized, hE, hA⟩ hP hD (lv_entry av hlen)
theorem vaP_mem {D : va_G} {cl : List vw_C} {ws : va_W} {H : Heap} : va_P D cl ws H ↔ ∀ q ∈ ws, va_at D cl q H :=
  ⟨fun h q hq => by obtain ⟨i, hi⟩ := List.getElem?_of_mem hq; exact h i q hi, fun h k q hq => h q (List.mem_of_getElem? hq)⟩
theorem vaD_pw {A : Nat → Prop} {ws : va_W} : va_D A ws ↔ ws.Pairwise (fun x y => x.1 ≠ y.1) ∧ ∀ q ∈ ws, A q.1 := by
  constructor
  · intro h
    refine ⟨List.pairwise_iff_getElem.mpr (fun i j hi hj hij he => ?_), fun q hq => ?_⟩
    · have := h.1 i j _ _ (List.getElem?_eq_getElem hi) (List.getElem?_eq_getElem hj) he
      omega
    · obtain ⟨i, hi⟩ := List.getElem?_of_mem hq
      exact h.2 i q hi
  · intro ⟨h1, h2⟩
    refine ⟨fun i j p q hi hj he => ?_, fun k q hq => h2 q (List.mem_of_getElem? hq)⟩
    obtain ⟨hi', ei⟩ := List.getElem?_eq_some_iff.mp hi
    obtain ⟨hj', ej⟩ := List.getElem?_eq_some_iff.mp hj
    subst ei; subst ej
    rcases Nat.lt_trichotomy i j with hlt | heq | hgt
    · exact absurd he (List.pairwise_iff_getElem.mp h1 i j hi' hj' hlt)
    · exact heq
    · exact absurd he.symm (List.pairwise_iff_getElem.mp h1 j i hj' hi' hgt)
/-- behind a call: the callee's part of the world changed, the rest stands where it stood -/
theorem wj {A0 : Nat → Prop} {D : va_G} {cl : List vw_C} {X Y w0 w1 : va_W} {H H1 : Heap} (hP : va_P D cl (X ++ (w0 ++ Y)) H) (hD : va_D A0 (X ++ (w0 ++ Y))) (hk : ∀ q : Nat, q < H.size → ¬ va_A w0 H.size q → H1[q]? = H[q]?) (hF : ∀ q, va_A w0 H.size q → A0 q) (hP1 : va_P D cl w1 H1) (hD1 : va_D (va_A w0 H.size) w1) : va_P D cl (X ++ (w1 ++ Y)) H1 ∧ va_D A0 (X ++ (w1 ++ Y)) := by
  rw [vaP_mem] at hP hP1
  rw [vaD_pw] at hD hD1
  obtain ⟨hpw, hA⟩ := hD
  obtain ⟨pX, pW, dX⟩ := List.pairwise_append.mp hpw
  obtain ⟨p0, pY, d0⟩ := List.pairwise_append.mp pW
  have aX : ∀ q ∈ X, ¬ va_A w0 H.size q.1 := by
    intro q hq h
    rcases h with ⟨k, e, h⟩ | h
    · exact dX q hq (q.1, e) (List.mem_append_left _ (List.mem_of_getElem? h)) rfl
    · have := (hP q (List.mem_append_left _ hq)).lt
      omega
  have aY : ∀ q ∈ Y, ¬ va_A w0 H.size q.1 := by
    intro q hq h
    rcases h with ⟨k, e, h⟩ | h
    · exact d0 (q.1, e) (List.mem_of_getElem? h) q hq rfl
    · have := (hP q (List.mem_append_right _ (List.mem_append_right _ hq))).lt
      omega
  have sX : ∀ q ∈ X, va_at D cl q H1 := fun q hq => (hP q (List.mem_append_left _ hq)).kept (hk q.1 (hP q (List.mem_append_left _ hq)).lt (aX q hq))
  have sY : ∀ q ∈ Y, va_at D cl q H1 := fun q hq => (hP q (List.mem_append_right _ (List.mem_append_right _ hq))).kept (hk q.1 (hP q (List.mem_append_right _ (List.mem_append_right _ hq))).lt (aY q hq))
  rw [vaP_mem, vaD_pw]
  refine ⟨fun q hq => ?_, List.pairwise_append.mpr ⟨pX, List.pairwise_append.mpr ⟨hD1.1, pY, ?_⟩, ?_⟩, fun q hq => ?_⟩
  · rcases List.mem_append.mp hq with h | h
    · exact sX q h
    · rcases List.mem_append.mp h with h | h
      · exact hP1 q h
      · exact sY q h
  · intro a ha b hb he
    exact aY b hb (by rw [← he]; exact hD1.2 a ha)
  · intro a ha b hb he
    rcases List.mem_append.mp hb with h | h
    · exact aX a ha (by rw [he]; exact hD1.2 b h)
    · exact dX a ha b (List.mem_append_right _ h) he
  · rcases List.mem_append.mp hq with h | h
    · exact hA q (List.mem_append_left _ h)
    · rcases List.mem_append.mp h with h | h
      · exact hF q.1 (hD1.2 q h)
      · exact hA q (List.mem_append_right _ (List.mem_append_right _ h))
section CTG
variable {p : Program} {l : Launch} {e : Env} {R : Room} {s : State} {m : MethodId} {args : Array Value} {below : List Frame} {meth : Method} {c : Code} {H : Heap} {locs : List Loc} {cells slots : Nat} {Q : State → Prop}
variable {pc : Nat} {ls : Array Slot} {rest st0 : List Value} {E : EV} {A : Nat → Prop} {w w' w0 w1 : va_W} {ov : Option Value} {aa : Array Value}
theorem ct_free {X Y : va_W} (hw : w = X ++ (w0 ++ Y)) (hD : va_D A w) (hS : va_S A s.heap H locs) (hA : ∀ q : Nat, s.heap.size ≤ q → A q) : ∀ q, va_A w0 H.size q → A q := by
  intro q h
  rw [hw, vaD_pw] at hD
  rcases h with ⟨k, e, h⟩ | h
  · exact hD.2 (q, e) (List.mem_append_right _ (List.mem_append_left _ (List.mem_of_getElem? h)))
  · exact hA q (Nat.le_trans hS.1 h)
theorem ct_go {X Y : va_W} (hw : w = X ++ (w0 ++ Y)) (hw' : w' = X ++ (w1 ++ Y)) (hr : va_Run p l e R s m args below meth c H locs cells slots 0 0 (F0 m pc ls st0) rest (Qct E (va_A w0 H.size) w1 ov aa) (va_A w0 H.size))
    (hP : va_P E.1 vwCl w H) (hD : va_D A w) (hS : va_S A s.heap H locs) (hA : ∀ q : Nat, s.heap.size ≤ q → A q)
    (kk : ∀ (H1 : Heap) (locs1 : List Loc), va_P E.1 vwCl w' H1 → va_D A w' → va_S A s.heap H1 locs1 → W p l e R s m args below meth c H1 locs1 cells slots Q (F0 m (pc + 3) ls (ov.toList ++ rest))) : W p l e R s m args below meth c H locs cells slots Q (F0 m pc ls st0) := by
  have hF := ct_free hw hD hS hA
  intro T hT X0
  obtain ⟨v, st₀, t, T', L, h0, X', hL, e1, e2, ⟨hv, hp, hd, hz, hk⟩, st⟩ := hr T hT X0
  cases hv
  rw [h0] at hz hk
  rw [hw] at hP hD
  rw [← e1] at hp hz hk
  obtain ⟨hP', hD'⟩ := wj hP hD hk hF hp hd
  rw [← hw'] at hP' hD'
  obtain ⟨t2, a1, b1⟩ := kk T'.heap (locs ++ L) hP' hD' ⟨Nat.le_trans hS.1 hz, fun q h1 h2 => by rw [hk q (Nat.lt_of_lt_of_le h1 hS.1) (fun z => h2 (hF q z))]; exact hS.2.1 q h1 h2, fun q hq => by
      rcases List.mem_append.mp hq with h | h
      · exact hS.2.2 q h
      · exact hF _ (hL q h)⟩ T' rfl X'
  exact ⟨t2, st t2 a1, b1⟩
end CTG
/-- the words of a call of an own instance method -/
def LinkV (own : String) (index : Nat) (C : String) (y : MethodName) (bytes : ByteArray) (maxL : Nat) (ret : Option FieldType) (n : Nat) : Prop :=
  Cond.methodLink own index y ∈ tbl ∧ Cond.instanceMethod y ∈ tbl ∧ Cond.selects C y y ∈ tbl ∧ Cond.initialized y.cls ∈ tbl ∧ Cond.code y bytes maxL ret ∈ tbl ∧ (y.cls ≠ "java/lang/invoke/MethodHandle" ∧ y.cls ≠ "java/lang/invoke/VarHandle") ∧ (parseMethodDescriptor y.desc).map (fun d => d.parameters.length) = some n
/-- of an own static method -/
def LinkS (own : String) (index : Nat) (y : MethodName) (bytes : ByteArray) (maxL : Nat) (ret : Option FieldType) (n : Nat) : Prop :=
  Cond.methodLink own index y ∈ tbl ∧ Cond.static y ∈ tbl ∧ Cond.initialized y.cls ∈ tbl ∧ Cond.code y bytes maxL ret ∈ tbl ∧ (y.cls ≠ "java/lang/invoke/MethodHandle" ∧ y.cls ≠ "java/lang/invoke/VarHandle") ∧ (parseMethodDescriptor y.desc).map (fun d => d.parameters.length) = some n
/-- of a nest mate's instance method -/
def LinkVN (own : String) (index : Nat) (C : String) (y : MethodName) (host : String) (bytes : ByteArray) (maxL : Nat) (ret : Option FieldType) (n : Nat) : Prop :=
  Cond.methodLinkNest own index y host ∈ tbl ∧ Cond.instanceMethod y ∈ tbl ∧ Cond.selects C y y ∈ tbl ∧ Cond.initialized y.cls ∈ tbl ∧ Cond.code y bytes maxL ret ∈ tbl ∧ (y.cls ≠ "java/lang/invoke/MethodHandle" ∧ y.cls ≠ "java/lang/invoke/VarHandle") ∧ (parseMethodDescriptor y.desc).map (fun d => d.parameters.length) = some n
/-- of a nest mate's static method -/
def LinkSN (own : String) (index : Nat) (y : MethodName) (host : String) (bytes : ByteArray) (maxL : Nat) (ret : Option FieldType) (n : Nat) : Prop :=
  Cond.methodLinkNest own index y host ∈ tbl ∧ Cond.static y ∈ tbl ∧ Cond.initialized y.cls ∈ tbl ∧ Cond.code y bytes maxL ret ∈ tbl ∧ (y.cls ≠ "java/lang/invoke/MethodHandle" ∧ y.cls ≠ "java/lang/invoke/VarHandle") ∧ (parseMethodDescriptor y.desc).map (fun d => d.parameters.length) = some n
theorem cd_all {E : EV} {A : Nat → Prop} {s : State} (hE : Ev E A s) {y : MethodName} {bytes : ByteArray} {maxL : Nat} {ret : Option FieldType} (hc : Cond.code y bytes maxL ret ∈ tbl) : ∀ w ∈ [Cond.code y bytes maxL ret], ∀ (a' : Array Value) (U : State), s.WarmedH U.vm → w.before a' U = true := by
  intro w hw a' U hW
  rw [List.mem_singleton] at hw
  subst hw
  exact tb_warm hW _ (tb_ok _ hc) (hE.w (args := #[]) hc) a'
theorem ln_of {y : MethodName} {n : Nat} (h : (parseMethodDescriptor y.desc).map (fun d => d.parameters.length) = some n) : ∀ sig, parseMethodDescriptor y.desc = some sig → n = sig.parameters.length := by
  intro sig hs
  rw [hs] at h
  exact (Option.some.inj h).symm
section CTC
variable {p : Program} {l : Launch} {e : Env} {R : Room} {s : State} {m : MethodId} {args : Array Value} {below : List Frame} {meth : Method} {c : Code} {H : Heap} {locs : List Loc} {cells slots : Nat} {Q : State → Prop}
variable {pc : Nat} {ls : Array Slot} {rest As st0 : List Value} {E : EV} {A : Nat → Prop} {w w' w0 w1 X Y : va_W} {ov : Option Value}
variable {own C host : String} {index maxL nL n b ci q0 : Nat} {y : MethodName} {bytes cc : ByteArray} {ret : Option FieldType} {rm : Room} {fs : List Value} {T : u_T} {N : Nat}
theorem ct_pre {av : List Value} (hw : w = X ++ (w0 ++ Y)) (hE : Ev E A s) (hP : va_P E.1 vwCl w H) (hD : va_D A w) (hS : va_S A s.heap H locs) (hA : ∀ q : Nat, s.heap.size ≤ q → A q) : ∀ U : State, U.heap = H → s.WarmedH U.vm → Pct E av w0 H.size av.toArray U := by
  intro U hU hW
  have hF := ct_free hw hD hS hA
  rw [hw] at hP hD
  rw [vaP_mem] at hP
  rw [vaD_pw] at hD
  refine ⟨rfl, by rw [hU], ?_, ?_, hE.go hS hU hW hF⟩
  · rw [hU, vaP_mem]
    exact fun q hq => hP q (List.mem_append_right _ (List.mem_append_left _ hq))
  · rw [vaD_pw]
    exact ⟨(List.pairwise_append.mp (List.pairwise_append.mp hD.1).2.1).1, fun _ _ => trivial⟩
theorem cV (lk : LinkV own index C y bytes maxL ret n) (hx : p.tables.exec = Jvm.exec) (hb : c.code = cc) (hml : c.maxLocals = nL) (hown : s.vm.findClass own = some m.cls) (hE : Ev E A s) (hA : ∀ q : Nat, s.heap.size ≤ q → A q) (hC : Ct l E y bytes maxL ret rm (.ref b :: As) w0 w1 ov) (hw : w = X ++ (w0 ++ Y)) (hw' : w' = X ++ (w1 ++ Y))
    (hP : va_P E.1 vwCl w H) (hD : va_D A w) (hS : va_S A s.heap H locs) (he : w0[q0]? = some (b, .inr (ci, fs))) (hc : vwCl[ci]? = some (C, T, N)) (hR : rm.cells = 0 ∧ rm.slots = 0 ∧ rm.frames + 1 ≤ R.frames ∧ 8 + (maxL + 11) + rm.locals ≤ R.locals) (hl : ls.size = nL) (hst : st0 = As.reverse ++ .ref b :: rest) (hn : As.length = n) (hW : (rest.map fun v => v.category).sum ≤ 8) (hf : cells + 0 ≤ R.cells ∧ slots + 0 ≤ R.slots) (hdg : decode cc pc = .ok (.invokevirtual index, 3))
    (kk : ∀ (H1 : Heap) (locs1 : List Loc), va_P E.1 vwCl w' H1 → va_D A w' → va_S A s.heap H1 locs1 → W p l e R s m args below meth c H1 locs1 cells slots Q (F0 m (pc + 3) ls (ov.toList ++ rest))) : W p l e R s m args below meth c H locs cells slots Q (F0 m pc ls st0) := by
  obtain ⟨k1, k2, k3, k4, k5, k6, k7⟩ := lk
  have hpre := ct_pre (av := .ref b :: As) hw hE hP hD hS hA
  have hP2 : va_P E.1 vwCl w0 H := by
    have hP0 := hP
    rw [hw, vaP_mem] at hP0
    rw [vaP_mem]
    exact fun q hq => hP0 q (List.mem_append_right _ (List.mem_append_left _ hq))
  exact ct_go hw hw' (va_runV (As := As) (rest := rest) ⟨hx, hb, hml, hown, fun w hw => hE.w hw⟩ (hC H.size) (⟨⟨hR.1, hR.2.1, hR.2.2.1, hR.2.2.2, cd_all hE k5, List.mem_singleton.mpr rfl, hE.w k5, hE.w k4, k6, ln_of k7, hE.w k1⟩, hE.w k2, hE.w k3⟩) ⟨Pct.blind, va_recv hE.2.1 hP2 hc he, hpre⟩ rfl hn hl hst (lv_room hW) hdg hf) hP hD hS hA kk
theorem cS (lk : LinkS own index y bytes maxL ret n) (hx : p.tables.exec = Jvm.exec) (hb : c.code = cc) (hml : c.maxLocals = nL) (hown : s.vm.findClass own = some m.cls) (hE : Ev E A s) (hA : ∀ q : Nat, s.heap.size ≤ q → A q) (hC : Ct l E y bytes maxL ret rm As w0 w1 ov) (hw : w = X ++ (w0 ++ Y)) (hw' : w' = X ++ (w1 ++ Y))
    (hP : va_P E.1 vwCl w H) (hD : va_D A w) (hS : va_S A s.heap H locs) (hR : rm.cells = 0 ∧ rm.slots = 0 ∧ rm.frames + 1 ≤ R.frames ∧ 8 + (maxL + 11) + rm.locals ≤ R.locals) (hl : ls.size = nL) (hst : st0 = As.reverse ++ rest) (hn : As.length = n) (hW : (rest.map fun v => v.category).sum ≤ 8) (hf : cells + 0 ≤ R.cells ∧ slots + 0 ≤ R.slots) (hdg : decode cc pc = .ok (.invokestatic index, 3))
    (kk : ∀ (H1 : Heap) (locs1 : List Loc), va_P E.1 vwCl w' H1 → va_D A w' → va_S A s.heap H1 locs1 → W p l e R s m args below meth c H1 locs1 cells slots Q (F0 m (pc + 3) ls (ov.toList ++ rest))) : W p l e R s m args below meth c H locs cells slots Q (F0 m pc ls st0) := by
  obtain ⟨k1, k2, k4, k5, k6, k7⟩ := lk
  have hpre := ct_pre (av := As) hw hE hP hD hS hA
  exact ct_go hw hw' (va_runS (As := As) (rest := rest) ⟨hx, hb, hml, hown, fun w hw => hE.w hw⟩ (hC H.size) (⟨⟨hR.1, hR.2.1, hR.2.2.1, hR.2.2.2, cd_all hE k5, List.mem_singleton.mpr rfl, hE.w k5, hE.w k4, k6, ln_of k7, hE.w k1⟩, hE.w k2⟩) ⟨Pct.blind, hpre⟩ rfl hn hl hst (lv_room hW) hdg hf) hP hD hS hA kk
theorem cVN (lk : LinkVN own index C y host bytes maxL ret n) (hx : p.tables.exec = Jvm.exec) (hb : c.code = cc) (hml : c.maxLocals = nL) (hown : s.vm.findClass own = some m.cls) (hE : Ev E A s) (hA : ∀ q : Nat, s.heap.size ≤ q → A q) (hC : Ct l E y bytes maxL ret rm (.ref b :: As) w0 w1 ov) (hw : w = X ++ (w0 ++ Y)) (hw' : w' = X ++ (w1 ++ Y))
    (hP : va_P E.1 vwCl w H) (hD : va_D A w) (hS : va_S A s.heap H locs) (he : w0[q0]? = some (b, .inr (ci, fs))) (hc : vwCl[ci]? = some (C, T, N)) (hR : rm.cells = 0 ∧ rm.slots = 0 ∧ rm.frames + 1 ≤ R.frames ∧ 8 + (maxL + 11) + rm.locals ≤ R.locals) (hl : ls.size = nL) (hst : st0 = As.reverse ++ .ref b :: rest) (hn : As.length = n) (hW : (rest.map fun v => v.category).sum ≤ 8) (hf : cells + 0 ≤ R.cells ∧ slots + 0 ≤ R.slots) (hdg : decode cc pc = .ok (.invokevirtual index, 3))
    (kk : ∀ (H1 : Heap) (locs1 : List Loc), va_P E.1 vwCl w' H1 → va_D A w' → va_S A s.heap H1 locs1 → W p l e R s m args below meth c H1 locs1 cells slots Q (F0 m (pc + 3) ls (ov.toList ++ rest))) : W p l e R s m args below meth c H locs cells slots Q (F0 m pc ls st0) := by
  obtain ⟨k1, k2, k3, k4, k5, k6, k7⟩ := lk
  have hpre := ct_pre (av := .ref b :: As) hw hE hP hD hS hA
  have hP2 : va_P E.1 vwCl w0 H := by
    have hP0 := hP
    rw [hw, vaP_mem] at hP0
    rw [vaP_mem]
    exact fun q hq => hP0 q (List.mem_append_right _ (List.mem_append_left _ hq))
  exact ct_go hw hw' (va_runVN (As := As) (rest := rest) ⟨hx, hb, hml, hown, fun w hw => hE.w hw⟩ (hC H.size) (⟨⟨⟨hR.1, hR.2.1, hR.2.2.1, hR.2.2.2, cd_all hE k5, List.mem_singleton.mpr rfl⟩, hE.w k5, hE.w k4, k6, ln_of k7, hE.w k1⟩, hE.w k2, hE.w k3⟩) ⟨Pct.blind, va_recv hE.2.1 hP2 hc he, hpre⟩ rfl hn hl hst (lv_room hW) hdg hf) hP hD hS hA kk
theorem cSN (lk : LinkSN own index y host bytes maxL ret n) (hx : p.tables.exec = Jvm.exec) (hb : c.code = cc) (hml : c.maxLocals = nL) (hown : s.vm.findClass own = some m.cls) (hE : Ev E A s) (hA : ∀ q : Nat, s.heap.size ≤ q → A q) (hC : Ct l E y bytes maxL ret rm As w0 w1 ov) (hw : w = X ++ (w0 ++ Y)) (hw' : w' = X ++ (w1 ++ Y))
    (hP : va_P E.1 vwCl w H) (hD : va_D A w) (hS : va_S A s.heap H locs) (hR : rm.cells = 0 ∧ rm.slots = 0 ∧ rm.frames + 1 ≤ R.frames ∧ 8 + (maxL + 11) + rm.locals ≤ R.locals) (hl : ls.size = nL) (hst : st0 = As.reverse ++ rest) (hn : As.length = n) (hW : (rest.map fun v => v.category).sum ≤ 8) (hf : cells + 0 ≤ R.cells ∧ slots + 0 ≤ R.slots) (hdg : decode cc pc = .ok (.invokestatic index, 3))
    (kk : ∀ (H1 : Heap) (locs1 : List Loc), va_P E.1 vwCl w' H1 → va_D A w' → va_S A s.heap H1 locs1 → W p l e R s m args below meth c H1 locs1 cells slots Q (F0 m (pc + 3) ls (ov.toList ++ rest))) : W p l e R s m args below meth c H locs cells slots Q (F0 m pc ls st0) := by
  obtain ⟨k1, k2, k4, k5, k6, k7⟩ := lk
  have hpre := ct_pre (av := As) hw hE hP hD hS hA
  exact ct_go hw hw' (va_runSN (As := As) (rest := rest) ⟨hx, hb, hml, hown, fun w hw => hE.w hw⟩ (hC H.size) (⟨⟨⟨hR.1, hR.2.1, hR.2.2.1, hR.2.2.2, cd_all hE k5, List.mem_singleton.mpr rfl⟩, hE.w k5, hE.w k4, k6, ln_of k7, hE.w k1⟩, hE.w k2, trivial⟩) ⟨Pct.blind, hpre⟩ rfl hn hl hst (lv_room hW) hdg hf) hP hD hS hA kk
end CTC
section CTR
variable {p : Program} {l : Launch} {e : Env} {R : Room} {s : State} {m : MethodId} {args : Array Value} {below : List Frame} {meth : Method} {c : Code} {H : Heap} {locs : List Loc}
variable {pc : Nat} {ls : Array Slot} {E : EV} {A : Nat → Prop} {w1 : va_W} {cc : ByteArray}
theorem rt_i {v : Int32} (hx : p.tables.exec = Jvm.exec) (hb : c.code = cc) (hr : meth.sig.returnType = some .int) (hlocks : meth.locks = false) (hP : va_P E.1 vwCl w1 H) (hD : va_D A w1) (hS : va_S A s.heap H locs) (hdg : decode cc pc = .ok (.ireturn, 1)) : W p l e R s m args below meth c H locs 0 0 (MQ below (Qct E A w1 (some (.int v))) args s 0 0 A) (F0 m pc ls [.int v]) :=
  W.iret hx hb hr (fun t ht _ => ⟨rfl, by rw [ht]; exact hP, hD, hS.F ht⟩) hS.2.2 hdg hlocks
theorem rt_z {v : Int32} {ty : FieldType} (hn : narrow ty (.int v) = .int v) (hx : p.tables.exec = Jvm.exec) (hb : c.code = cc) (hr : meth.sig.returnType = some ty) (hlocks : meth.locks = false) (hP : va_P E.1 vwCl w1 H) (hD : va_D A w1) (hS : va_S A s.heap H locs) (hdg : decode cc pc = .ok (.ireturn, 1)) : W p l e R s m args below meth c H locs 0 0 (MQ below (Qct E A w1 (some (.int v))) args s 0 0 A) (F0 m pc ls [.int v]) :=
  W.zret hx hb hr hn (fun t ht _ => ⟨rfl, by rw [ht]; exact hP, hD, hS.F ht⟩) hS.2.2 hdg hlocks
theorem rt_l {v : Int64} (hx : p.tables.exec = Jvm.exec) (hb : c.code = cc) (hr : meth.sig.returnType = some .long) (hlocks : meth.locks = false) (hP : va_P E.1 vwCl w1 H) (hD : va_D A w1) (hS : va_S A s.heap H locs) (hdg : decode cc pc = .ok (.lreturn, 1)) : W p l e R s m args below meth c H locs 0 0 (MQ below (Qct E A w1 (some (.long v))) args s 0 0 A) (F0 m pc ls [.long v]) :=
  W.lret hx hb hr (fun t ht _ => ⟨rfl, by rw [ht]; exact hP, hD, hS.F ht⟩) hS.2.2 hdg hlocks
theorem rt_v (hx : p.tables.exec = Jvm.exec) (hb : c.code = cc) (hr : meth.sig.returnType = none) (hlocks : meth.locks = false) (hP : va_P E.1 vwCl w1 H) (hD : va_D A w1) (hS : va_S A s.heap H locs) (hdg : decode cc pc = .ok (.return_, 1)) : W p l e R s m args below meth c H locs 0 0 (MQ below (Qct E A w1 none) args s 0 0 A) (F0 m pc ls []) :=
  W.vret hx hb hr (fun t ht _ => ⟨rfl, by rw [ht]; exact hP, hD, hS.F ht⟩) hS.2.2 hdg hlocks
end CTR
/-- booleans as numbers; an index that is looked at -/
def bI (b : Bool) : Int32 := if b then 1 else 0
theorem bI_nar (b : Bool) : narrow .boolean (.int (bI b)) = .int (bI b) := by cases b <;> decide
def gd {α : Type} (i : Int32) (n : Nat) (x : Option α) : Option α := if i < 0 ∨ n ≤ i.toNatClampNeg then none else x
theorem gd_some {α : Type} {i : Int32} {n : Nat} {x : Option α} {y : α} (h : gd i n x = some y) : vp_in i n ∧ x = some y := by
  unfold gd at h
  by_cases c : i < 0 ∨ n ≤ i.toNatClampNeg
  · rw [if_pos c] at h; cases h
  · rw [if_neg c] at h; exact ⟨c, h⟩
theorem gd_in {α : Type} {i : Int32} {n : Nat} {x : Option α} (h : vp_in i n) : gd i n x = x := if_neg h
def FU : Nat := 1000000
end
section
theorem tw_0 : Cond.initialized "NotedHouseLaw" ∈ tbl := tb_in (List.mem_append_right _ (List.mem_of_getElem? (i := 0) (by decide +kernel))) (by decide +kernel)
theorem tw_1 : Cond.initialized "NotedHouse" ∈ tbl := tb_in (List.mem_append_right _ (List.mem_of_getElem? (i := 1) (by decide +kernel))) (by decide +kernel)
theorem tw_2 : Cond.initialized "NotedHouse$House" ∈ tbl := tb_in (List.mem_append_right _ (List.mem_of_getElem? (i := 2) (by decide +kernel))) (by decide +kernel)
theorem tw_3 : Cond.initialized "NotedHouse$Text" ∈ tbl := tb_in (List.mem_append_right _ (List.mem_of_getElem? (i := 3) (by decide +kernel))) (by decide +kernel)
theorem tw_4 : Cond.initialized "NotedHouse$Sheet" ∈ tbl := tb_in (List.mem_append_right _ (List.mem_of_getElem? (i := 4) (by decide +kernel))) (by decide +kernel)
theorem tw_5 : Cond.initialized "NotedHouseModel" ∈ tbl := tb_in (List.mem_append_right _ (List.mem_of_getElem? (i := 5) (by decide +kernel))) (by decide +kernel)
theorem tw_6 : Cond.initialized "java/lang/Math" ∈ tbl := tb_in (List.mem_append_right _ (List.mem_of_getElem? (i := 6) (by decide +kernel))) (by decide +kernel)
theorem tw_7 : Cond.initialized "java/lang/System" ∈ tbl := tb_in (List.mem_append_right _ (List.mem_of_getElem? (i := 7) (by decide +kernel))) (by decide +kernel)
theorem tw_8 : Cond.initialized "java/lang/String" ∈ tbl := tb_in (List.mem_append_right _ (List.mem_of_getElem? (i := 8) (by decide +kernel))) (by decide +kernel)
theorem tw_9 : Cond.initialized "java/lang/StringLatin1" ∈ tbl := tb_in (List.mem_append_right _ (List.mem_of_getElem? (i := 9) (by decide +kernel))) (by decide +kernel)
theorem tw_10 : Cond.initialized "jdk/internal/util/Preconditions" ∈ tbl := tb_in (List.mem_append_right _ (List.mem_of_getElem? (i := 10) (by decide +kernel))) (by decide +kernel)
theorem tw_11 : Cond.initialized "java/lang/StringUTF16" ∈ tbl := tb_in (List.mem_append_right _ (List.mem_of_getElem? (i := 11) (by decide +kernel))) (by decide +kernel)
theorem tw_12 : Cond.classLink "NotedHouseLaw" (7 : Nat) "NotedHouse" ∈ tbl := tb_in (List.mem_append_right _ (List.mem_of_getElem? (i := 12) (by decide +kernel))) (by decide +kernel)
theorem tw_13 : Cond.instantiable "NotedHouse" (7 : Nat) ∈ tbl := tb_in (List.mem_append_right _ (List.mem_of_getElem? (i := 13) (by decide +kernel))) (by decide +kernel)
theorem tw_14 : Cond.methodLink "NotedHouseLaw" (9 : Nat) ⟨"NotedHouse", "<init>", "()V"⟩ ∈ tbl := tb_in (List.mem_append_right _ (List.mem_of_getElem? (i := 14) (by decide +kernel))) (by decide +kernel)
theorem tw_15 : Cond.instanceMethod ⟨"NotedHouse", "<init>", "()V"⟩ ∈ tbl := tb_in (List.mem_append_right _ (List.mem_of_getElem? (i := 15) (by decide +kernel))) (by decide +kernel)
theorem tw_16 : Cond.code ⟨"NotedHouse", "<init>", "()V"⟩ prog_1_method_1_code (2 : Nat) none ∈ tbl := tb_in (List.mem_append_right _ (List.mem_of_getElem? (i := 16) (by decide +kernel))) (by decide +kernel)
theorem tw_17 : Cond.methodLink "NotedHouse" (3 : Nat) ⟨"java/lang/Object", "<init>", "()V"⟩ ∈ tbl := tb_in (List.mem_append_right _ (List.mem_of_getElem? (i := 17) (by decide +kernel))) (by decide +kernel)
theorem tw_18 : Cond.instanceMethod ⟨"java/lang/Object", "<init>", "()V"⟩ ∈ tbl := tb_in (List.mem_append_right _ (List.mem_of_getElem? (i := 18) (by decide +kernel))) (by decide +kernel)
theorem tw_19 : Cond.code ⟨"java/lang/Object", "<init>", "()V"⟩ object_method_1_code (1 : Nat) none ∈ tbl := tb_in (List.mem_append_right _ (List.mem_of_getElem? (i := 19) (by decide +kernel))) (by decide +kernel)
theorem tw_20 : Cond.classLink "NotedHouse" (9 : Nat) "NotedHouse$House" ∈ tbl := tb_in (List.mem_append_right _ (List.mem_of_getElem? (i := 20) (by decide +kernel))) (by decide +kernel)
theorem tw_21 : Cond.instantiable "NotedHouse$House" (10 : Nat) ∈ tbl := tb_in (List.mem_append_right _ (List.mem_of_getElem? (i := 21) (by decide +kernel))) (by decide +kernel)
theorem tw_22 : Cond.methodLinkNest "NotedHouse" (11 : Nat) ⟨"NotedHouse$House", "<init>", "()V"⟩ "NotedHouse" ∈ tbl := tb_in (List.mem_append_right _ (List.mem_of_getElem? (i := 22) (by decide +kernel))) (by decide +kernel)
theorem tw_23 : Cond.instanceMethod ⟨"NotedHouse$House", "<init>", "()V"⟩ ∈ tbl := tb_in (List.mem_append_right _ (List.mem_of_getElem? (i := 23) (by decide +kernel))) (by decide +kernel)
theorem tw_24 : Cond.code ⟨"NotedHouse$House", "<init>", "()V"⟩ prog_2_method_1_code (2 : Nat) none ∈ tbl := tb_in (List.mem_append_right _ (List.mem_of_getElem? (i := 24) (by decide +kernel))) (by decide +kernel)
theorem tw_25 : Cond.methodLink "NotedHouse$House" (3 : Nat) ⟨"java/lang/Object", "<init>", "()V"⟩ ∈ tbl := tb_in (List.mem_append_right _ (List.mem_of_getElem? (i := 25) (by decide +kernel))) (by decide +kernel)
theorem tw_26 : Cond.fieldLink "NotedHouse$House" (9 : Nat) "NotedHouse$House" "night" "I" ∈ tbl := tb_in (List.mem_append_right _ (List.mem_of_getElem? (i := 26) (by decide +kernel))) (by decide +kernel)
theorem tw_27 : Cond.fieldLinkNest "NotedHouse" (59 : Nat) "NotedHouse$House" "night" "I" "NotedHouse" ∈ tbl := tb_in (List.mem_append_right _ (List.mem_of_getElem? (i := 27) (by decide +kernel))) (by decide +kernel)
theorem tw_28 : Cond.fieldLink "NotedHouse$House" (15 : Nat) "NotedHouse$House" "moment" "I" ∈ tbl := tb_in (List.mem_append_right _ (List.mem_of_getElem? (i := 28) (by decide +kernel))) (by decide +kernel)
theorem tw_29 : Cond.fieldLinkNest "NotedHouse" (63 : Nat) "NotedHouse$House" "moment" "I" "NotedHouse" ∈ tbl := tb_in (List.mem_append_right _ (List.mem_of_getElem? (i := 29) (by decide +kernel))) (by decide +kernel)
theorem tw_30 : Cond.fieldLink "NotedHouse$House" (18 : Nat) "NotedHouse$House" "people" "I" ∈ tbl := tb_in (List.mem_append_right _ (List.mem_of_getElem? (i := 30) (by decide +kernel))) (by decide +kernel)
theorem tw_31 : Cond.fieldLinkNest "NotedHouse" (76 : Nat) "NotedHouse$House" "people" "I" "NotedHouse" ∈ tbl := tb_in (List.mem_append_right _ (List.mem_of_getElem? (i := 31) (by decide +kernel))) (by decide +kernel)
theorem tw_32 : Cond.fieldLinkNest "NotedHouse$Text" (64 : Nat) "NotedHouse$House" "people" "I" "NotedHouse" ∈ tbl := tb_in (List.mem_append_right _ (List.mem_of_getElem? (i := 32) (by decide +kernel))) (by decide +kernel)
theorem tw_33 : Cond.fieldLink "NotedHouse$House" (21 : Nat) "NotedHouse$House" "cues" "[I" ∈ tbl := tb_in (List.mem_append_right _ (List.mem_of_getElem? (i := 33) (by decide +kernel))) (by decide +kernel)
theorem tw_34 : Cond.fieldLinkNest "NotedHouse" (53 : Nat) "NotedHouse$House" "cues" "[I" "NotedHouse" ∈ tbl := tb_in (List.mem_append_right _ (List.mem_of_getElem? (i := 34) (by decide +kernel))) (by decide +kernel)
theorem tw_35 : Cond.fieldLinkNest "NotedHouse$Text" (86 : Nat) "NotedHouse$House" "cues" "[I" "NotedHouse" ∈ tbl := tb_in (List.mem_append_right _ (List.mem_of_getElem? (i := 35) (by decide +kernel))) (by decide +kernel)
theorem tw_36 : Cond.fieldLink "NotedHouse$House" (25 : Nat) "NotedHouse$House" "tenses" "[I" ∈ tbl := tb_in (List.mem_append_right _ (List.mem_of_getElem? (i := 36) (by decide +kernel))) (by decide +kernel)
theorem tw_37 : Cond.fieldLinkNest "NotedHouse" (56 : Nat) "NotedHouse$House" "tenses" "[I" "NotedHouse" ∈ tbl := tb_in (List.mem_append_right _ (List.mem_of_getElem? (i := 37) (by decide +kernel))) (by decide +kernel)
theorem tw_38 : Cond.fieldLinkNest "NotedHouse$Text" (89 : Nat) "NotedHouse$House" "tenses" "[I" "NotedHouse" ∈ tbl := tb_in (List.mem_append_right _ (List.mem_of_getElem? (i := 38) (by decide +kernel))) (by decide +kernel)
theorem tw_39 : Cond.fieldLink "NotedHouse$House" (28 : Nat) "NotedHouse$House" "kinds" "[I" ∈ tbl := tb_in (List.mem_append_right _ (List.mem_of_getElem? (i := 39) (by decide +kernel))) (by decide +kernel)
theorem tw_40 : Cond.fieldLinkNest "NotedHouse" (88 : Nat) "NotedHouse$House" "kinds" "[I" "NotedHouse" ∈ tbl := tb_in (List.mem_append_right _ (List.mem_of_getElem? (i := 40) (by decide +kernel))) (by decide +kernel)
theorem tw_41 : Cond.fieldLink "NotedHouse$House" (31 : Nat) "NotedHouse$House" "freshes" "[I" ∈ tbl := tb_in (List.mem_append_right _ (List.mem_of_getElem? (i := 41) (by decide +kernel))) (by decide +kernel)
theorem tw_42 : Cond.fieldLinkNest "NotedHouse$Text" (79 : Nat) "NotedHouse$House" "freshes" "[I" "NotedHouse" ∈ tbl := tb_in (List.mem_append_right _ (List.mem_of_getElem? (i := 42) (by decide +kernel))) (by decide +kernel)
theorem tw_43 : Cond.fieldLinkNest "NotedHouse" (91 : Nat) "NotedHouse$House" "freshes" "[I" "NotedHouse" ∈ tbl := tb_in (List.mem_append_right _ (List.mem_of_getElem? (i := 43) (by decide +kernel))) (by decide +kernel)
theorem tw_44 : Cond.fieldLink "NotedHouse$House" (34 : Nat) "NotedHouse$House" "notes" "[I" ∈ tbl := tb_in (List.mem_append_right _ (List.mem_of_getElem? (i := 44) (by decide +kernel))) (by decide +kernel)
theorem tw_45 : Cond.fieldLinkNest "NotedHouse" (94 : Nat) "NotedHouse$House" "notes" "[I" "NotedHouse" ∈ tbl := tb_in (List.mem_append_right _ (List.mem_of_getElem? (i := 45) (by decide +kernel))) (by decide +kernel)
theorem tw_46 : Cond.fieldLink "NotedHouse$House" (37 : Nat) "NotedHouse$House" "dids" "[I" ∈ tbl := tb_in (List.mem_append_right _ (List.mem_of_getElem? (i := 46) (by decide +kernel))) (by decide +kernel)
theorem tw_47 : Cond.fieldLinkNest "NotedHouse" (97 : Nat) "NotedHouse$House" "dids" "[I" "NotedHouse" ∈ tbl := tb_in (List.mem_append_right _ (List.mem_of_getElem? (i := 47) (by decide +kernel))) (by decide +kernel)
theorem tw_48 : Cond.fieldLink "NotedHouse$House" (40 : Nat) "NotedHouse$House" "deeds" "[I" ∈ tbl := tb_in (List.mem_append_right _ (List.mem_of_getElem? (i := 48) (by decide +kernel))) (by decide +kernel)
theorem tw_49 : Cond.lays "NotedHouse$House" "NotedHouse$House" "night" "I" ∈ tbl := tb_in (List.mem_append_right _ (List.mem_of_getElem? (i := 49) (by decide +kernel))) (by decide +kernel)
theorem tw_50 : Cond.soleField "NotedHouse$House" "night" ∈ tbl := tb_in (List.mem_append_right _ (List.mem_of_getElem? (i := 50) (by decide +kernel))) (by decide +kernel)
theorem tw_51 : Cond.lays "NotedHouse$House" "NotedHouse$House" "moment" "I" ∈ tbl := tb_in (List.mem_append_right _ (List.mem_of_getElem? (i := 51) (by decide +kernel))) (by decide +kernel)
theorem tw_52 : Cond.soleField "NotedHouse$House" "moment" ∈ tbl := tb_in (List.mem_append_right _ (List.mem_of_getElem? (i := 52) (by decide +kernel))) (by decide +kernel)
theorem tw_53 : Cond.lays "NotedHouse$House" "NotedHouse$House" "people" "I" ∈ tbl := tb_in (List.mem_append_right _ (List.mem_of_getElem? (i := 53) (by decide +kernel))) (by decide +kernel)
theorem tw_54 : Cond.soleField "NotedHouse$House" "people" ∈ tbl := tb_in (List.mem_append_right _ (List.mem_of_getElem? (i := 54) (by decide +kernel))) (by decide +kernel)
theorem tw_55 : Cond.laysFinal "NotedHouse$House" "NotedHouse$House" "cues" "[I" ∈ tbl := tb_in (List.mem_append_right _ (List.mem_of_getElem? (i := 55) (by decide +kernel))) (by decide +kernel)
theorem tw_56 : Cond.soleField "NotedHouse$House" "cues" ∈ tbl := tb_in (List.mem_append_right _ (List.mem_of_getElem? (i := 56) (by decide +kernel))) (by decide +kernel)
theorem tw_57 : Cond.laysFinal "NotedHouse$House" "NotedHouse$House" "tenses" "[I" ∈ tbl := tb_in (List.mem_append_right _ (List.mem_of_getElem? (i := 57) (by decide +kernel))) (by decide +kernel)
theorem tw_58 : Cond.soleField "NotedHouse$House" "tenses" ∈ tbl := tb_in (List.mem_append_right _ (List.mem_of_getElem? (i := 58) (by decide +kernel))) (by decide +kernel)
theorem tw_59 : Cond.laysFinal "NotedHouse$House" "NotedHouse$House" "kinds" "[I" ∈ tbl := tb_in (List.mem_append_right _ (List.mem_of_getElem? (i := 59) (by decide +kernel))) (by decide +kernel)
theorem tw_60 : Cond.soleField "NotedHouse$House" "kinds" ∈ tbl := tb_in (List.mem_append_right _ (List.mem_of_getElem? (i := 60) (by decide +kernel))) (by decide +kernel)
theorem tw_61 : Cond.laysFinal "NotedHouse$House" "NotedHouse$House" "freshes" "[I" ∈ tbl := tb_in (List.mem_append_right _ (List.mem_of_getElem? (i := 61) (by decide +kernel))) (by decide +kernel)
theorem tw_62 : Cond.soleField "NotedHouse$House" "freshes" ∈ tbl := tb_in (List.mem_append_right _ (List.mem_of_getElem? (i := 62) (by decide +kernel))) (by decide +kernel)
theorem tw_63 : Cond.laysFinal "NotedHouse$House" "NotedHouse$House" "notes" "[I" ∈ tbl := tb_in (List.mem_append_right _ (List.mem_of_getElem? (i := 63) (by decide +kernel))) (by decide +kernel)
theorem tw_64 : Cond.soleField "NotedHouse$House" "notes" ∈ tbl := tb_in (List.mem_append_right _ (List.mem_of_getElem? (i := 64) (by decide +kernel))) (by decide +kernel)
theorem tw_65 : Cond.laysFinal "NotedHouse$House" "NotedHouse$House" "dids" "[I" ∈ tbl := tb_in (List.mem_append_right _ (List.mem_of_getElem? (i := 65) (by decide +kernel))) (by decide +kernel)
theorem tw_66 : Cond.soleField "NotedHouse$House" "dids" ∈ tbl := tb_in (List.mem_append_right _ (List.mem_of_getElem? (i := 66) (by decide +kernel))) (by decide +kernel)
theorem tw_67 : Cond.laysFinal "NotedHouse$House" "NotedHouse$House" "deeds" "[I" ∈ tbl := tb_in (List.mem_append_right _ (List.mem_of_getElem? (i := 67) (by decide +kernel))) (by decide +kernel)
theorem tw_68 : Cond.soleField "NotedHouse$House" "deeds" ∈ tbl := tb_in (List.mem_append_right _ (List.mem_of_getElem? (i := 68) (by decide +kernel))) (by decide +kernel)
theorem tw_69 : Cond.superclass "NotedHouse$House" "java/lang/Object" ∈ tbl := tb_in (List.mem_append_right _ (List.mem_of_getElem? (i := 69) (by decide +kernel))) (by decide +kernel)
theorem tw_70 : Cond.arrayClass FieldType.int ∈ tbl := tb_in (List.mem_append_right _ (List.mem_of_getElem? (i := 70) (by decide +kernel))) (by decide +kernel)
theorem tw_71 : Cond.classLink "NotedHouse" (26 : Nat) "NotedHouse$Text" ∈ tbl := tb_in (List.mem_append_right _ (List.mem_of_getElem? (i := 71) (by decide +kernel))) (by decide +kernel)
theorem tw_72 : Cond.instantiable "NotedHouse$Text" (6 : Nat) ∈ tbl := tb_in (List.mem_append_right _ (List.mem_of_getElem? (i := 72) (by decide +kernel))) (by decide +kernel)
theorem tw_73 : Cond.methodLinkNest "NotedHouse" (28 : Nat) ⟨"NotedHouse$Text", "<init>", "()V"⟩ "NotedHouse" ∈ tbl := tb_in (List.mem_append_right _ (List.mem_of_getElem? (i := 73) (by decide +kernel))) (by decide +kernel)
theorem tw_74 : Cond.instanceMethod ⟨"NotedHouse$Text", "<init>", "()V"⟩ ∈ tbl := tb_in (List.mem_append_right _ (List.mem_of_getElem? (i := 74) (by decide +kernel))) (by decide +kernel)
theorem tw_75 : Cond.code ⟨"NotedHouse$Text", "<init>", "()V"⟩ prog_4_method_1_code (1 : Nat) none ∈ tbl := tb_in (List.mem_append_right _ (List.mem_of_getElem? (i := 75) (by decide +kernel))) (by decide +kernel)
theorem tw_76 : Cond.methodLink "NotedHouse$Text" (3 : Nat) ⟨"java/lang/Object", "<init>", "()V"⟩ ∈ tbl := tb_in (List.mem_append_right _ (List.mem_of_getElem? (i := 76) (by decide +kernel))) (by decide +kernel)
theorem tw_77 : Cond.fieldLink "NotedHouse$Text" (9 : Nat) "NotedHouse$Text" "bytes" "[B" ∈ tbl := tb_in (List.mem_append_right _ (List.mem_of_getElem? (i := 77) (by decide +kernel))) (by decide +kernel)
theorem tw_78 : Cond.fieldLink "NotedHouse$Text" (15 : Nat) "NotedHouse$Text" "length" "I" ∈ tbl := tb_in (List.mem_append_right _ (List.mem_of_getElem? (i := 78) (by decide +kernel))) (by decide +kernel)
theorem tw_79 : Cond.fieldLinkNest "NotedHouse" (142 : Nat) "NotedHouse$Text" "length" "I" "NotedHouse" ∈ tbl := tb_in (List.mem_append_right _ (List.mem_of_getElem? (i := 79) (by decide +kernel))) (by decide +kernel)
theorem tw_80 : Cond.fieldLink "NotedHouse$Text" (19 : Nat) "NotedHouse$Text" "first" "I" ∈ tbl := tb_in (List.mem_append_right _ (List.mem_of_getElem? (i := 80) (by decide +kernel))) (by decide +kernel)
theorem tw_81 : Cond.fieldLink "NotedHouse$Text" (22 : Nat) "NotedHouse$Text" "behind" "I" ∈ tbl := tb_in (List.mem_append_right _ (List.mem_of_getElem? (i := 81) (by decide +kernel))) (by decide +kernel)
theorem tw_82 : Cond.fieldLink "NotedHouse$Text" (25 : Nat) "NotedHouse$Text" "token" "I" ∈ tbl := tb_in (List.mem_append_right _ (List.mem_of_getElem? (i := 82) (by decide +kernel))) (by decide +kernel)
theorem tw_83 : Cond.fieldLink "NotedHouse$Text" (28 : Nat) "NotedHouse$Text" "number" "I" ∈ tbl := tb_in (List.mem_append_right _ (List.mem_of_getElem? (i := 83) (by decide +kernel))) (by decide +kernel)
theorem tw_84 : Cond.laysFinal "NotedHouse$Text" "NotedHouse$Text" "bytes" "[B" ∈ tbl := tb_in (List.mem_append_right _ (List.mem_of_getElem? (i := 84) (by decide +kernel))) (by decide +kernel)
theorem tw_85 : Cond.soleField "NotedHouse$Text" "bytes" ∈ tbl := tb_in (List.mem_append_right _ (List.mem_of_getElem? (i := 85) (by decide +kernel))) (by decide +kernel)
theorem tw_86 : Cond.lays "NotedHouse$Text" "NotedHouse$Text" "length" "I" ∈ tbl := tb_in (List.mem_append_right _ (List.mem_of_getElem? (i := 86) (by decide +kernel))) (by decide +kernel)
theorem tw_87 : Cond.soleField "NotedHouse$Text" "length" ∈ tbl := tb_in (List.mem_append_right _ (List.mem_of_getElem? (i := 87) (by decide +kernel))) (by decide +kernel)
theorem tw_88 : Cond.lays "NotedHouse$Text" "NotedHouse$Text" "first" "I" ∈ tbl := tb_in (List.mem_append_right _ (List.mem_of_getElem? (i := 88) (by decide +kernel))) (by decide +kernel)
theorem tw_89 : Cond.soleField "NotedHouse$Text" "first" ∈ tbl := tb_in (List.mem_append_right _ (List.mem_of_getElem? (i := 89) (by decide +kernel))) (by decide +kernel)
theorem tw_90 : Cond.lays "NotedHouse$Text" "NotedHouse$Text" "behind" "I" ∈ tbl := tb_in (List.mem_append_right _ (List.mem_of_getElem? (i := 90) (by decide +kernel))) (by decide +kernel)
theorem tw_91 : Cond.soleField "NotedHouse$Text" "behind" ∈ tbl := tb_in (List.mem_append_right _ (List.mem_of_getElem? (i := 91) (by decide +kernel))) (by decide +kernel)
theorem tw_92 : Cond.lays "NotedHouse$Text" "NotedHouse$Text" "token" "I" ∈ tbl := tb_in (List.mem_append_right _ (List.mem_of_getElem? (i := 92) (by decide +kernel))) (by decide +kernel)
theorem tw_93 : Cond.soleField "NotedHouse$Text" "token" ∈ tbl := tb_in (List.mem_append_right _ (List.mem_of_getElem? (i := 93) (by decide +kernel))) (by decide +kernel)
theorem tw_94 : Cond.lays "NotedHouse$Text" "NotedHouse$Text" "number" "I" ∈ tbl := tb_in (List.mem_append_right _ (List.mem_of_getElem? (i := 94) (by decide +kernel))) (by decide +kernel)
theorem tw_95 : Cond.soleField "NotedHouse$Text" "number" ∈ tbl := tb_in (List.mem_append_right _ (List.mem_of_getElem? (i := 95) (by decide +kernel))) (by decide +kernel)
theorem tw_96 : Cond.superclass "NotedHouse$Text" "java/lang/Object" ∈ tbl := tb_in (List.mem_append_right _ (List.mem_of_getElem? (i := 96) (by decide +kernel))) (by decide +kernel)
theorem tw_97 : Cond.arrayClass FieldType.byte ∈ tbl := tb_in (List.mem_append_right _ (List.mem_of_getElem? (i := 97) (by decide +kernel))) (by decide +kernel)
theorem tw_98 : Cond.classLink "NotedHouse" (33 : Nat) "NotedHouse$Sheet" ∈ tbl := tb_in (List.mem_append_right _ (List.mem_of_getElem? (i := 98) (by decide +kernel))) (by decide +kernel)
theorem tw_100 : Cond.instantiable "NotedHouse$Sheet" (3 : Nat) ∈ tbl := tb_in (List.mem_append_right _ (List.mem_of_getElem? (i := 100) (by decide +kernel))) (by decide +kernel)
theorem tw_101 : Cond.methodLinkNest "NotedHouse" (43 : Nat) ⟨"NotedHouse$Sheet", "<init>", "()V"⟩ "NotedHouse" ∈ tbl := tb_in (List.mem_append_right _ (List.mem_of_getElem? (i := 101) (by decide +kernel))) (by decide +kernel)
theorem tw_102 : Cond.instanceMethod ⟨"NotedHouse$Sheet", "<init>", "()V"⟩ ∈ tbl := tb_in (List.mem_append_right _ (List.mem_of_getElem? (i := 102) (by decide +kernel))) (by decide +kernel)
theorem tw_103 : Cond.code ⟨"NotedHouse$Sheet", "<init>", "()V"⟩ prog_3_method_1_code (1 : Nat) none ∈ tbl := tb_in (List.mem_append_right _ (List.mem_of_getElem? (i := 103) (by decide +kernel))) (by decide +kernel)
theorem tw_104 : Cond.methodLink "NotedHouse$Sheet" (3 : Nat) ⟨"java/lang/Object", "<init>", "()V"⟩ ∈ tbl := tb_in (List.mem_append_right _ (List.mem_of_getElem? (i := 104) (by decide +kernel))) (by decide +kernel)
theorem tw_105 : Cond.fieldLink "NotedHouse$Sheet" (9 : Nat) "NotedHouse$Sheet" "row" "[J" ∈ tbl := tb_in (List.mem_append_right _ (List.mem_of_getElem? (i := 105) (by decide +kernel))) (by decide +kernel)
theorem tw_106 : Cond.fieldLinkNest "NotedHouse" (172 : Nat) "NotedHouse$Sheet" "row" "[J" "NotedHouse" ∈ tbl := tb_in (List.mem_append_right _ (List.mem_of_getElem? (i := 106) (by decide +kernel))) (by decide +kernel)
theorem tw_107 : Cond.fieldLink "NotedHouse$Sheet" (15 : Nat) "NotedHouse$Sheet" "bits" "I" ∈ tbl := tb_in (List.mem_append_right _ (List.mem_of_getElem? (i := 107) (by decide +kernel))) (by decide +kernel)
theorem tw_108 : Cond.fieldLinkNest "NotedHouse" (180 : Nat) "NotedHouse$Sheet" "bits" "I" "NotedHouse" ∈ tbl := tb_in (List.mem_append_right _ (List.mem_of_getElem? (i := 108) (by decide +kernel))) (by decide +kernel)
theorem tw_109 : Cond.fieldLink "NotedHouse$Sheet" (19 : Nat) "NotedHouse$Sheet" "size" "I" ∈ tbl := tb_in (List.mem_append_right _ (List.mem_of_getElem? (i := 109) (by decide +kernel))) (by decide +kernel)
theorem tw_110 : Cond.fieldLinkNest "NotedHouse" (164 : Nat) "NotedHouse$Sheet" "size" "I" "NotedHouse" ∈ tbl := tb_in (List.mem_append_right _ (List.mem_of_getElem? (i := 110) (by decide +kernel))) (by decide +kernel)
theorem tw_111 : Cond.laysFinal "NotedHouse$Sheet" "NotedHouse$Sheet" "row" "[J" ∈ tbl := tb_in (List.mem_append_right _ (List.mem_of_getElem? (i := 111) (by decide +kernel))) (by decide +kernel)
theorem tw_112 : Cond.soleField "NotedHouse$Sheet" "row" ∈ tbl := tb_in (List.mem_append_right _ (List.mem_of_getElem? (i := 112) (by decide +kernel))) (by decide +kernel)
theorem tw_113 : Cond.lays "NotedHouse$Sheet" "NotedHouse$Sheet" "bits" "I" ∈ tbl := tb_in (List.mem_append_right _ (List.mem_of_getElem? (i := 113) (by decide +kernel))) (by decide +kernel)
theorem tw_114 : Cond.soleField "NotedHouse$Sheet" "bits" ∈ tbl := tb_in (List.mem_append_right _ (List.mem_of_getElem? (i := 114) (by decide +kernel))) (by decide +kernel)
theorem tw_115 : Cond.lays "NotedHouse$Sheet" "NotedHouse$Sheet" "size" "I" ∈ tbl := tb_in (List.mem_append_right _ (List.mem_of_getElem? (i := 115) (by decide +kernel))) (by decide +kernel)
theorem tw_116 : Cond.soleField "NotedHouse$Sheet" "size" ∈ tbl := tb_in (List.mem_append_right _ (List.mem_of_getElem? (i := 116) (by decide +kernel))) (by decide +kernel)
theorem tw_117 : Cond.superclass "NotedHouse$Sheet" "java/lang/Object" ∈ tbl := tb_in (List.mem_append_right _ (List.mem_of_getElem? (i := 117) (by decide +kernel))) (by decide +kernel)
theorem tw_118 : Cond.arrayClass FieldType.long ∈ tbl := tb_in (List.mem_append_right _ (List.mem_of_getElem? (i := 118) (by decide +kernel))) (by decide +kernel)
theorem tw_119 : Cond.fieldLink "NotedHouse" (12 : Nat) "NotedHouse" "house" "LNotedHouse$House;" ∈ tbl := tb_in (List.mem_append_right _ (List.mem_of_getElem? (i := 119) (by decide +kernel))) (by decide +kernel)
theorem tw_120 : Cond.fieldLink "NotedHouse" (16 : Nat) "NotedHouse" "trial" "LNotedHouse$House;" ∈ tbl := tb_in (List.mem_append_right _ (List.mem_of_getElem? (i := 120) (by decide +kernel))) (by decide +kernel)
theorem tw_121 : Cond.fieldLink "NotedHouse" (19 : Nat) "NotedHouse" "kept" "LNotedHouse$House;" ∈ tbl := tb_in (List.mem_append_right _ (List.mem_of_getElem? (i := 121) (by decide +kernel))) (by decide +kernel)
theorem tw_122 : Cond.fieldLink "NotedHouse" (22 : Nat) "NotedHouse" "keeps" "Z" ∈ tbl := tb_in (List.mem_append_right _ (List.mem_of_getElem? (i := 122) (by decide +kernel))) (by decide +kernel)
theorem tw_123 : Cond.fieldLink "NotedHouse" (29 : Nat) "NotedHouse" "tape" "LNotedHouse$Text;" ∈ tbl := tb_in (List.mem_append_right _ (List.mem_of_getElem? (i := 123) (by decide +kernel))) (by decide +kernel)
theorem tw_124 : Cond.fieldLink "NotedHouse" (35 : Nat) "NotedHouse" "sheets" "[LNotedHouse$Sheet;" ∈ tbl := tb_in (List.mem_append_right _ (List.mem_of_getElem? (i := 124) (by decide +kernel))) (by decide +kernel)
theorem tw_125 : Cond.fieldLink "NotedHouse" (39 : Nat) "NotedHouse" "found" "[I" ∈ tbl := tb_in (List.mem_append_right _ (List.mem_of_getElem? (i := 125) (by decide +kernel))) (by decide +kernel)
theorem tw_126 : Cond.laysFinal "NotedHouse" "NotedHouse" "house" "LNotedHouse$House;" ∈ tbl := tb_in (List.mem_append_right _ (List.mem_of_getElem? (i := 126) (by decide +kernel))) (by decide +kernel)
theorem tw_127 : Cond.soleField "NotedHouse" "house" ∈ tbl := tb_in (List.mem_append_right _ (List.mem_of_getElem? (i := 127) (by decide +kernel))) (by decide +kernel)
theorem tw_128 : Cond.laysFinal "NotedHouse" "NotedHouse" "trial" "LNotedHouse$House;" ∈ tbl := tb_in (List.mem_append_right _ (List.mem_of_getElem? (i := 128) (by decide +kernel))) (by decide +kernel)
theorem tw_129 : Cond.soleField "NotedHouse" "trial" ∈ tbl := tb_in (List.mem_append_right _ (List.mem_of_getElem? (i := 129) (by decide +kernel))) (by decide +kernel)
theorem tw_130 : Cond.laysFinal "NotedHouse" "NotedHouse" "kept" "LNotedHouse$House;" ∈ tbl := tb_in (List.mem_append_right _ (List.mem_of_getElem? (i := 130) (by decide +kernel))) (by decide +kernel)
theorem tw_131 : Cond.soleField "NotedHouse" "kept" ∈ tbl := tb_in (List.mem_append_right _ (List.mem_of_getElem? (i := 131) (by decide +kernel))) (by decide +kernel)
theorem tw_132 : Cond.lays "NotedHouse" "NotedHouse" "keeps" "Z" ∈ tbl := tb_in (List.mem_append_right _ (List.mem_of_getElem? (i := 132) (by decide +kernel))) (by decide +kernel)
theorem tw_133 : Cond.soleField "NotedHouse" "keeps" ∈ tbl := tb_in (List.mem_append_right _ (List.mem_of_getElem? (i := 133) (by decide +kernel))) (by decide +kernel)
theorem tw_134 : Cond.laysFinal "NotedHouse" "NotedHouse" "tape" "LNotedHouse$Text;" ∈ tbl := tb_in (List.mem_append_right _ (List.mem_of_getElem? (i := 134) (by decide +kernel))) (by decide +kernel)
theorem tw_135 : Cond.soleField "NotedHouse" "tape" ∈ tbl := tb_in (List.mem_append_right _ (List.mem_of_getElem? (i := 135) (by decide +kernel))) (by decide +kernel)
theorem tw_136 : Cond.laysFinal "NotedHouse" "NotedHouse" "sheets" "[LNotedHouse$Sheet;" ∈ tbl := tb_in (List.mem_append_right _ (List.mem_of_getElem? (i := 136) (by decide +kernel))) (by decide +kernel)
theorem tw_137 : Cond.soleField "NotedHouse" "sheets" ∈ tbl := tb_in (List.mem_append_right _ (List.mem_of_getElem? (i := 137) (by decide +kernel))) (by decide +kernel)
theorem tw_138 : Cond.laysFinal "NotedHouse" "NotedHouse" "found" "[I" ∈ tbl := tb_in (List.mem_append_right _ (List.mem_of_getElem? (i := 138) (by decide +kernel))) (by decide +kernel)
theorem tw_139 : Cond.soleField "NotedHouse" "found" ∈ tbl := tb_in (List.mem_append_right _ (List.mem_of_getElem? (i := 139) (by decide +kernel))) (by decide +kernel)
theorem tw_140 : Cond.superclass "NotedHouse" "java/lang/Object" ∈ tbl := tb_in (List.mem_append_right _ (List.mem_of_getElem? (i := 140) (by decide +kernel))) (by decide +kernel)
theorem tw_141 : Cond.methodLink "NotedHouseLaw" (13 : Nat) ⟨"NotedHouse", "play", "(III)I"⟩ ∈ tbl := tb_in (List.mem_append_right _ (List.mem_of_getElem? (i := 141) (by decide +kernel))) (by decide +kernel)
theorem tw_142 : Cond.instanceMethod ⟨"NotedHouse", "play", "(III)I"⟩ ∈ tbl := tb_in (List.mem_append_right _ (List.mem_of_getElem? (i := 142) (by decide +kernel))) (by decide +kernel)
theorem tw_143 : Cond.selects "NotedHouse" ⟨"NotedHouse", "play", "(III)I"⟩ ⟨"NotedHouse", "play", "(III)I"⟩ ∈ tbl := tb_in (List.mem_append_right _ (List.mem_of_getElem? (i := 143) (by decide +kernel))) (by decide +kernel)
theorem tw_144 : Cond.code ⟨"NotedHouse", "play", "(III)I"⟩ prog_1_method_2_code (5 : Nat) (Option.some FieldType.int) ∈ tbl := tb_in (List.mem_append_right _ (List.mem_of_getElem? (i := 144) (by decide +kernel))) (by decide +kernel)
theorem tw_145 : Cond.methodLink "NotedHouse" (44 : Nat) ⟨"NotedHouse", "isIn", "(III)Z"⟩ ∈ tbl := tb_in (List.mem_append_right _ (List.mem_of_getElem? (i := 145) (by decide +kernel))) (by decide +kernel)
theorem tw_146 : Cond.static ⟨"NotedHouse", "isIn", "(III)Z"⟩ ∈ tbl := tb_in (List.mem_append_right _ (List.mem_of_getElem? (i := 146) (by decide +kernel))) (by decide +kernel)
theorem tw_147 : Cond.code ⟨"NotedHouse", "isIn", "(III)Z"⟩ prog_1_method_45_code (3 : Nat) (Option.some FieldType.boolean) ∈ tbl := tb_in (List.mem_append_right _ (List.mem_of_getElem? (i := 147) (by decide +kernel))) (by decide +kernel)
theorem tw_148 : Cond.constant "NotedHouse" (48 : Nat) (-1000000001 : Int32) ∈ tbl := tb_in (List.mem_append_right _ (List.mem_of_getElem? (i := 148) (by decide +kernel))) (by decide +kernel)
theorem tw_149 : Cond.methodLink "NotedHouse" (49 : Nat) ⟨"NotedHouse", "finding", "(I)I"⟩ ∈ tbl := tb_in (List.mem_append_right _ (List.mem_of_getElem? (i := 149) (by decide +kernel))) (by decide +kernel)
theorem tw_150 : Cond.privateMethod ⟨"NotedHouse", "finding", "(I)I"⟩ ∈ tbl := tb_in (List.mem_append_right _ (List.mem_of_getElem? (i := 150) (by decide +kernel))) (by decide +kernel)
theorem tw_151 : Cond.instanceMethod ⟨"NotedHouse", "finding", "(I)I"⟩ ∈ tbl := tb_in (List.mem_append_right _ (List.mem_of_getElem? (i := 151) (by decide +kernel))) (by decide +kernel)
theorem tw_152 : Cond.code ⟨"NotedHouse", "finding", "(I)I"⟩ prog_1_method_39_code (3 : Nat) (Option.some FieldType.int) ∈ tbl := tb_in (List.mem_append_right _ (List.mem_of_getElem? (i := 152) (by decide +kernel))) (by decide +kernel)
theorem tw_153 : Cond.methodLink "NotedHouseLaw" (18 : Nat) ⟨"NotedHouse", "now", "(I)I"⟩ ∈ tbl := tb_in (List.mem_append_right _ (List.mem_of_getElem? (i := 153) (by decide +kernel))) (by decide +kernel)
theorem tw_154 : Cond.instanceMethod ⟨"NotedHouse", "now", "(I)I"⟩ ∈ tbl := tb_in (List.mem_append_right _ (List.mem_of_getElem? (i := 154) (by decide +kernel))) (by decide +kernel)
theorem tw_155 : Cond.selects "NotedHouse" ⟨"NotedHouse", "now", "(I)I"⟩ ⟨"NotedHouse", "now", "(I)I"⟩ ∈ tbl := tb_in (List.mem_append_right _ (List.mem_of_getElem? (i := 155) (by decide +kernel))) (by decide +kernel)
theorem tw_156 : Cond.code ⟨"NotedHouse", "now", "(I)I"⟩ prog_1_method_3_code (2 : Nat) (Option.some FieldType.int) ∈ tbl := tb_in (List.mem_append_right _ (List.mem_of_getElem? (i := 156) (by decide +kernel))) (by decide +kernel)
theorem tw_157 : Cond.methodLinkNest "NotedHouse" (66 : Nat) ⟨"NotedHouse$House", "allNotes", "()I"⟩ "NotedHouse" ∈ tbl := tb_in (List.mem_append_right _ (List.mem_of_getElem? (i := 157) (by decide +kernel))) (by decide +kernel)
theorem tw_158 : Cond.privateMethod ⟨"NotedHouse$House", "allNotes", "()I"⟩ ∈ tbl := tb_in (List.mem_append_right _ (List.mem_of_getElem? (i := 158) (by decide +kernel))) (by decide +kernel)
theorem tw_159 : Cond.instanceMethod ⟨"NotedHouse$House", "allNotes", "()I"⟩ ∈ tbl := tb_in (List.mem_append_right _ (List.mem_of_getElem? (i := 159) (by decide +kernel))) (by decide +kernel)
theorem tw_160 : Cond.code ⟨"NotedHouse$House", "allNotes", "()I"⟩ prog_2_method_7_code (1 : Nat) (Option.some FieldType.int) ∈ tbl := tb_in (List.mem_append_right _ (List.mem_of_getElem? (i := 160) (by decide +kernel))) (by decide +kernel)
theorem tw_161 : Cond.methodLink "NotedHouse$House" (53 : Nat) ⟨"NotedHouse$House", "sum", "([II)I"⟩ ∈ tbl := tb_in (List.mem_append_right _ (List.mem_of_getElem? (i := 161) (by decide +kernel))) (by decide +kernel)
theorem tw_162 : Cond.static ⟨"NotedHouse$House", "sum", "([II)I"⟩ ∈ tbl := tb_in (List.mem_append_right _ (List.mem_of_getElem? (i := 162) (by decide +kernel))) (by decide +kernel)
theorem tw_163 : Cond.code ⟨"NotedHouse$House", "sum", "([II)I"⟩ prog_2_method_10_code (4 : Nat) (Option.some FieldType.int) ∈ tbl := tb_in (List.mem_append_right _ (List.mem_of_getElem? (i := 163) (by decide +kernel))) (by decide +kernel)
theorem tw_164 : Cond.methodLinkNest "NotedHouse" (70 : Nat) ⟨"NotedHouse$House", "whoDoAsAsked", "()I"⟩ "NotedHouse" ∈ tbl := tb_in (List.mem_append_right _ (List.mem_of_getElem? (i := 164) (by decide +kernel))) (by decide +kernel)
theorem tw_165 : Cond.privateMethod ⟨"NotedHouse$House", "whoDoAsAsked", "()I"⟩ ∈ tbl := tb_in (List.mem_append_right _ (List.mem_of_getElem? (i := 165) (by decide +kernel))) (by decide +kernel)
theorem tw_166 : Cond.instanceMethod ⟨"NotedHouse$House", "whoDoAsAsked", "()I"⟩ ∈ tbl := tb_in (List.mem_append_right _ (List.mem_of_getElem? (i := 166) (by decide +kernel))) (by decide +kernel)
theorem tw_167 : Cond.code ⟨"NotedHouse$House", "whoDoAsAsked", "()I"⟩ prog_2_method_11_code (3 : Nat) (Option.some FieldType.int) ∈ tbl := tb_in (List.mem_append_right _ (List.mem_of_getElem? (i := 167) (by decide +kernel))) (by decide +kernel)
theorem tw_168 : Cond.methodLink "NotedHouse$House" (57 : Nat) ⟨"NotedHouse$House", "deedOf", "(I)I"⟩ ∈ tbl := tb_in (List.mem_append_right _ (List.mem_of_getElem? (i := 168) (by decide +kernel))) (by decide +kernel)
theorem tw_169 : Cond.privateMethod ⟨"NotedHouse$House", "deedOf", "(I)I"⟩ ∈ tbl := tb_in (List.mem_append_right _ (List.mem_of_getElem? (i := 169) (by decide +kernel))) (by decide +kernel)
theorem tw_170 : Cond.instanceMethod ⟨"NotedHouse$House", "deedOf", "(I)I"⟩ ∈ tbl := tb_in (List.mem_append_right _ (List.mem_of_getElem? (i := 170) (by decide +kernel))) (by decide +kernel)
theorem tw_171 : Cond.code ⟨"NotedHouse$House", "deedOf", "(I)I"⟩ prog_2_method_13_code (2 : Nat) (Option.some FieldType.int) ∈ tbl := tb_in (List.mem_append_right _ (List.mem_of_getElem? (i := 171) (by decide +kernel))) (by decide +kernel)
theorem tw_172 : Cond.methodLink "NotedHouse$House" (61 : Nat) ⟨"NotedHouse$House", "cougherDeed", "(I)I"⟩ ∈ tbl := tb_in (List.mem_append_right _ (List.mem_of_getElem? (i := 172) (by decide +kernel))) (by decide +kernel)
theorem tw_173 : Cond.privateMethod ⟨"NotedHouse$House", "cougherDeed", "(I)I"⟩ ∈ tbl := tb_in (List.mem_append_right _ (List.mem_of_getElem? (i := 173) (by decide +kernel))) (by decide +kernel)
theorem tw_174 : Cond.instanceMethod ⟨"NotedHouse$House", "cougherDeed", "(I)I"⟩ ∈ tbl := tb_in (List.mem_append_right _ (List.mem_of_getElem? (i := 174) (by decide +kernel))) (by decide +kernel)
theorem tw_175 : Cond.code ⟨"NotedHouse$House", "cougherDeed", "(I)I"⟩ prog_2_method_15_code (2 : Nat) (Option.some FieldType.int) ∈ tbl := tb_in (List.mem_append_right _ (List.mem_of_getElem? (i := 175) (by decide +kernel))) (by decide +kernel)
theorem tw_176 : Cond.methodLink "NotedHouse$House" (67 : Nat) ⟨"NotedHouse$House", "neighbourDid", "(II)Z"⟩ ∈ tbl := tb_in (List.mem_append_right _ (List.mem_of_getElem? (i := 176) (by decide +kernel))) (by decide +kernel)
theorem tw_177 : Cond.privateMethod ⟨"NotedHouse$House", "neighbourDid", "(II)Z"⟩ ∈ tbl := tb_in (List.mem_append_right _ (List.mem_of_getElem? (i := 177) (by decide +kernel))) (by decide +kernel)
theorem tw_178 : Cond.instanceMethod ⟨"NotedHouse$House", "neighbourDid", "(II)Z"⟩ ∈ tbl := tb_in (List.mem_append_right _ (List.mem_of_getElem? (i := 178) (by decide +kernel))) (by decide +kernel)
theorem tw_179 : Cond.code ⟨"NotedHouse$House", "neighbourDid", "(II)Z"⟩ prog_2_method_17_code (3 : Nat) (Option.some FieldType.boolean) ∈ tbl := tb_in (List.mem_append_right _ (List.mem_of_getElem? (i := 179) (by decide +kernel))) (by decide +kernel)
theorem tw_180 : Cond.methodLink "NotedHouse$House" (71 : Nat) ⟨"NotedHouse$House", "sitterDeed", "(I)I"⟩ ∈ tbl := tb_in (List.mem_append_right _ (List.mem_of_getElem? (i := 180) (by decide +kernel))) (by decide +kernel)
theorem tw_181 : Cond.privateMethod ⟨"NotedHouse$House", "sitterDeed", "(I)I"⟩ ∈ tbl := tb_in (List.mem_append_right _ (List.mem_of_getElem? (i := 181) (by decide +kernel))) (by decide +kernel)
theorem tw_182 : Cond.instanceMethod ⟨"NotedHouse$House", "sitterDeed", "(I)I"⟩ ∈ tbl := tb_in (List.mem_append_right _ (List.mem_of_getElem? (i := 182) (by decide +kernel))) (by decide +kernel)
theorem tw_183 : Cond.code ⟨"NotedHouse$House", "sitterDeed", "(I)I"⟩ prog_2_method_14_code (2 : Nat) (Option.some FieldType.int) ∈ tbl := tb_in (List.mem_append_right _ (List.mem_of_getElem? (i := 183) (by decide +kernel))) (by decide +kernel)
theorem tw_184 : Cond.methodLink "NotedHouse$House" (64 : Nat) ⟨"NotedHouse$House", "weeperDeed", "(I)I"⟩ ∈ tbl := tb_in (List.mem_append_right _ (List.mem_of_getElem? (i := 184) (by decide +kernel))) (by decide +kernel)
theorem tw_185 : Cond.privateMethod ⟨"NotedHouse$House", "weeperDeed", "(I)I"⟩ ∈ tbl := tb_in (List.mem_append_right _ (List.mem_of_getElem? (i := 185) (by decide +kernel))) (by decide +kernel)
theorem tw_186 : Cond.instanceMethod ⟨"NotedHouse$House", "weeperDeed", "(I)I"⟩ ∈ tbl := tb_in (List.mem_append_right _ (List.mem_of_getElem? (i := 186) (by decide +kernel))) (by decide +kernel)
theorem tw_187 : Cond.code ⟨"NotedHouse$House", "weeperDeed", "(I)I"⟩ prog_2_method_16_code (2 : Nat) (Option.some FieldType.int) ∈ tbl := tb_in (List.mem_append_right _ (List.mem_of_getElem? (i := 187) (by decide +kernel))) (by decide +kernel)
theorem tw_188 : Cond.methodLinkNest "NotedHouse" (73 : Nat) ⟨"NotedHouse$House", "allFresh", "()I"⟩ "NotedHouse" ∈ tbl := tb_in (List.mem_append_right _ (List.mem_of_getElem? (i := 188) (by decide +kernel))) (by decide +kernel)
theorem tw_189 : Cond.privateMethod ⟨"NotedHouse$House", "allFresh", "()I"⟩ ∈ tbl := tb_in (List.mem_append_right _ (List.mem_of_getElem? (i := 189) (by decide +kernel))) (by decide +kernel)
theorem tw_190 : Cond.instanceMethod ⟨"NotedHouse$House", "allFresh", "()I"⟩ ∈ tbl := tb_in (List.mem_append_right _ (List.mem_of_getElem? (i := 190) (by decide +kernel))) (by decide +kernel)
theorem tw_191 : Cond.code ⟨"NotedHouse$House", "allFresh", "()I"⟩ prog_2_method_8_code (1 : Nat) (Option.some FieldType.int) ∈ tbl := tb_in (List.mem_append_right _ (List.mem_of_getElem? (i := 191) (by decide +kernel))) (by decide +kernel)
theorem tw_192 : Cond.methodLink "NotedHouseLaw" (23 : Nat) ⟨"NotedHouse", "person", "(I)I"⟩ ∈ tbl := tb_in (List.mem_append_right _ (List.mem_of_getElem? (i := 192) (by decide +kernel))) (by decide +kernel)
theorem tw_193 : Cond.instanceMethod ⟨"NotedHouse", "person", "(I)I"⟩ ∈ tbl := tb_in (List.mem_append_right _ (List.mem_of_getElem? (i := 193) (by decide +kernel))) (by decide +kernel)
theorem tw_194 : Cond.selects "NotedHouse" ⟨"NotedHouse", "person", "(I)I"⟩ ⟨"NotedHouse", "person", "(I)I"⟩ ∈ tbl := tb_in (List.mem_append_right _ (List.mem_of_getElem? (i := 194) (by decide +kernel))) (by decide +kernel)
theorem tw_195 : Cond.code ⟨"NotedHouse", "person", "(I)I"⟩ prog_1_method_4_code (2 : Nat) (Option.some FieldType.int) ∈ tbl := tb_in (List.mem_append_right _ (List.mem_of_getElem? (i := 195) (by decide +kernel))) (by decide +kernel)
theorem tw_196 : Cond.constant "NotedHouse" (79 : Nat) (-1000000002 : Int32) ∈ tbl := tb_in (List.mem_append_right _ (List.mem_of_getElem? (i := 196) (by decide +kernel))) (by decide +kernel)
theorem tw_197 : Cond.methodLinkNest "NotedHouse" (80 : Nat) ⟨"NotedHouse$House", "seat", "(II)I"⟩ "NotedHouse" ∈ tbl := tb_in (List.mem_append_right _ (List.mem_of_getElem? (i := 197) (by decide +kernel))) (by decide +kernel)
theorem tw_198 : Cond.privateMethod ⟨"NotedHouse$House", "seat", "(II)I"⟩ ∈ tbl := tb_in (List.mem_append_right _ (List.mem_of_getElem? (i := 198) (by decide +kernel))) (by decide +kernel)
theorem tw_199 : Cond.instanceMethod ⟨"NotedHouse$House", "seat", "(II)I"⟩ ∈ tbl := tb_in (List.mem_append_right _ (List.mem_of_getElem? (i := 199) (by decide +kernel))) (by decide +kernel)
theorem tw_200 : Cond.code ⟨"NotedHouse$House", "seat", "(II)I"⟩ prog_2_method_3_code (4 : Nat) (Option.some FieldType.int) ∈ tbl := tb_in (List.mem_append_right _ (List.mem_of_getElem? (i := 200) (by decide +kernel))) (by decide +kernel)
theorem tw_201 : Cond.methodLink "NotedHouseLaw" (27 : Nat) ⟨"NotedHouse", "of", "(II)I"⟩ ∈ tbl := tb_in (List.mem_append_right _ (List.mem_of_getElem? (i := 201) (by decide +kernel))) (by decide +kernel)
theorem tw_202 : Cond.instanceMethod ⟨"NotedHouse", "of", "(II)I"⟩ ∈ tbl := tb_in (List.mem_append_right _ (List.mem_of_getElem? (i := 202) (by decide +kernel))) (by decide +kernel)
theorem tw_203 : Cond.selects "NotedHouse" ⟨"NotedHouse", "of", "(II)I"⟩ ⟨"NotedHouse", "of", "(II)I"⟩ ∈ tbl := tb_in (List.mem_append_right _ (List.mem_of_getElem? (i := 203) (by decide +kernel))) (by decide +kernel)
theorem tw_204 : Cond.code ⟨"NotedHouse", "of", "(II)I"⟩ prog_1_method_5_code (3 : Nat) (Option.some FieldType.int) ∈ tbl := tb_in (List.mem_append_right _ (List.mem_of_getElem? (i := 204) (by decide +kernel))) (by decide +kernel)
theorem tw_205 : Cond.methodLink "NotedHouse" (84 : Nat) ⟨"NotedHouse", "isThere", "(I)Z"⟩ ∈ tbl := tb_in (List.mem_append_right _ (List.mem_of_getElem? (i := 205) (by decide +kernel))) (by decide +kernel)
theorem tw_206 : Cond.privateMethod ⟨"NotedHouse", "isThere", "(I)Z"⟩ ∈ tbl := tb_in (List.mem_append_right _ (List.mem_of_getElem? (i := 206) (by decide +kernel))) (by decide +kernel)
theorem tw_207 : Cond.instanceMethod ⟨"NotedHouse", "isThere", "(I)Z"⟩ ∈ tbl := tb_in (List.mem_append_right _ (List.mem_of_getElem? (i := 207) (by decide +kernel))) (by decide +kernel)
theorem tw_208 : Cond.code ⟨"NotedHouse", "isThere", "(I)Z"⟩ prog_1_method_41_code (2 : Nat) (Option.some FieldType.boolean) ∈ tbl := tb_in (List.mem_append_right _ (List.mem_of_getElem? (i := 208) (by decide +kernel))) (by decide +kernel)
theorem tw_209 : Cond.methodLinkNest "NotedHouse" (100 : Nat) ⟨"NotedHouse$House", "deedOf", "(I)I"⟩ "NotedHouse" ∈ tbl := tb_in (List.mem_append_right _ (List.mem_of_getElem? (i := 209) (by decide +kernel))) (by decide +kernel)
theorem tw_210 : Cond.methodLink "NotedHouse" (103 : Nat) ⟨"NotedHouse", "staleness", "(I)I"⟩ ∈ tbl := tb_in (List.mem_append_right _ (List.mem_of_getElem? (i := 210) (by decide +kernel))) (by decide +kernel)
theorem tw_211 : Cond.static ⟨"NotedHouse", "staleness", "(I)I"⟩ ∈ tbl := tb_in (List.mem_append_right _ (List.mem_of_getElem? (i := 211) (by decide +kernel))) (by decide +kernel)
theorem tw_212 : Cond.code ⟨"NotedHouse", "staleness", "(I)I"⟩ prog_1_method_48_code (1 : Nat) (Option.some FieldType.int) ∈ tbl := tb_in (List.mem_append_right _ (List.mem_of_getElem? (i := 212) (by decide +kernel))) (by decide +kernel)
theorem tw_213 : Cond.methodLink "NotedHouseLaw" (32 : Nat) ⟨"NotedHouse", "scores", "(III)I"⟩ ∈ tbl := tb_in (List.mem_append_right _ (List.mem_of_getElem? (i := 213) (by decide +kernel))) (by decide +kernel)
theorem tw_214 : Cond.instanceMethod ⟨"NotedHouse", "scores", "(III)I"⟩ ∈ tbl := tb_in (List.mem_append_right _ (List.mem_of_getElem? (i := 214) (by decide +kernel))) (by decide +kernel)
theorem tw_215 : Cond.selects "NotedHouse" ⟨"NotedHouse", "scores", "(III)I"⟩ ⟨"NotedHouse", "scores", "(III)I"⟩ ∈ tbl := tb_in (List.mem_append_right _ (List.mem_of_getElem? (i := 215) (by decide +kernel))) (by decide +kernel)
theorem tw_216 : Cond.code ⟨"NotedHouse", "scores", "(III)I"⟩ prog_1_method_6_code (4 : Nat) (Option.some FieldType.int) ∈ tbl := tb_in (List.mem_append_right _ (List.mem_of_getElem? (i := 216) (by decide +kernel))) (by decide +kernel)
theorem tw_217 : Cond.methodLink "NotedHouse" (106 : Nat) ⟨"NotedHouse", "scoreFor", "(III)I"⟩ ∈ tbl := tb_in (List.mem_append_right _ (List.mem_of_getElem? (i := 217) (by decide +kernel))) (by decide +kernel)
theorem tw_218 : Cond.static ⟨"NotedHouse", "scoreFor", "(III)I"⟩ ∈ tbl := tb_in (List.mem_append_right _ (List.mem_of_getElem? (i := 218) (by decide +kernel))) (by decide +kernel)
theorem tw_219 : Cond.code ⟨"NotedHouse", "scoreFor", "(III)I"⟩ prog_1_method_49_code (3 : Nat) (Option.some FieldType.int) ∈ tbl := tb_in (List.mem_append_right _ (List.mem_of_getElem? (i := 219) (by decide +kernel))) (by decide +kernel)
theorem tw_220 : Cond.methodLink "NotedHouse" (215 : Nat) ⟨"NotedHouse", "cougherScore", "(II)I"⟩ ∈ tbl := tb_in (List.mem_append_right _ (List.mem_of_getElem? (i := 220) (by decide +kernel))) (by decide +kernel)
theorem tw_221 : Cond.static ⟨"NotedHouse", "cougherScore", "(II)I"⟩ ∈ tbl := tb_in (List.mem_append_right _ (List.mem_of_getElem? (i := 221) (by decide +kernel))) (by decide +kernel)
theorem tw_222 : Cond.code ⟨"NotedHouse", "cougherScore", "(II)I"⟩ prog_1_method_51_code (2 : Nat) (Option.some FieldType.int) ∈ tbl := tb_in (List.mem_append_right _ (List.mem_of_getElem? (i := 222) (by decide +kernel))) (by decide +kernel)
theorem tw_223 : Cond.methodLink "NotedHouse" (221 : Nat) ⟨"NotedHouse", "sitterScore", "(II)I"⟩ ∈ tbl := tb_in (List.mem_append_right _ (List.mem_of_getElem? (i := 223) (by decide +kernel))) (by decide +kernel)
theorem tw_224 : Cond.static ⟨"NotedHouse", "sitterScore", "(II)I"⟩ ∈ tbl := tb_in (List.mem_append_right _ (List.mem_of_getElem? (i := 224) (by decide +kernel))) (by decide +kernel)
theorem tw_225 : Cond.code ⟨"NotedHouse", "sitterScore", "(II)I"⟩ prog_1_method_50_code (2 : Nat) (Option.some FieldType.int) ∈ tbl := tb_in (List.mem_append_right _ (List.mem_of_getElem? (i := 225) (by decide +kernel))) (by decide +kernel)
theorem tw_226 : Cond.methodLink "NotedHouse" (218 : Nat) ⟨"NotedHouse", "weeperScore", "(II)I"⟩ ∈ tbl := tb_in (List.mem_append_right _ (List.mem_of_getElem? (i := 226) (by decide +kernel))) (by decide +kernel)
theorem tw_227 : Cond.static ⟨"NotedHouse", "weeperScore", "(II)I"⟩ ∈ tbl := tb_in (List.mem_append_right _ (List.mem_of_getElem? (i := 227) (by decide +kernel))) (by decide +kernel)
theorem tw_228 : Cond.code ⟨"NotedHouse", "weeperScore", "(II)I"⟩ prog_1_method_52_code (2 : Nat) (Option.some FieldType.int) ∈ tbl := tb_in (List.mem_append_right _ (List.mem_of_getElem? (i := 228) (by decide +kernel))) (by decide +kernel)
theorem tw_229 : Cond.methodLink "NotedHouse" (209 : Nat) ⟨"java/lang/Math", "max", "(II)I"⟩ ∈ tbl := tb_in (List.mem_append_right _ (List.mem_of_getElem? (i := 229) (by decide +kernel))) (by decide +kernel)
theorem tw_230 : Cond.static ⟨"java/lang/Math", "max", "(II)I"⟩ ∈ tbl := tb_in (List.mem_append_right _ (List.mem_of_getElem? (i := 230) (by decide +kernel))) (by decide +kernel)
theorem tw_231 : Cond.code ⟨"java/lang/Math", "max", "(II)I"⟩ prog_7_method_65_code (2 : Nat) (Option.some FieldType.int) ∈ tbl := tb_in (List.mem_append_right _ (List.mem_of_getElem? (i := 231) (by decide +kernel))) (by decide +kernel)
theorem tw_232 : Cond.methodLink "NotedHouseLaw" (36 : Nat) ⟨"NotedHouse", "set", "(III)I"⟩ ∈ tbl := tb_in (List.mem_append_right _ (List.mem_of_getElem? (i := 232) (by decide +kernel))) (by decide +kernel)
theorem tw_233 : Cond.instanceMethod ⟨"NotedHouse", "set", "(III)I"⟩ ∈ tbl := tb_in (List.mem_append_right _ (List.mem_of_getElem? (i := 233) (by decide +kernel))) (by decide +kernel)
theorem tw_234 : Cond.selects "NotedHouse" ⟨"NotedHouse", "set", "(III)I"⟩ ⟨"NotedHouse", "set", "(III)I"⟩ ∈ tbl := tb_in (List.mem_append_right _ (List.mem_of_getElem? (i := 234) (by decide +kernel))) (by decide +kernel)
theorem tw_235 : Cond.code ⟨"NotedHouse", "set", "(III)I"⟩ prog_1_method_7_code (5 : Nat) (Option.some FieldType.int) ∈ tbl := tb_in (List.mem_append_right _ (List.mem_of_getElem? (i := 235) (by decide +kernel))) (by decide +kernel)
theorem tw_236 : Cond.methodLink "NotedHouseLaw" (40 : Nat) ⟨"NotedHouse", "turn", "(II)I"⟩ ∈ tbl := tb_in (List.mem_append_right _ (List.mem_of_getElem? (i := 236) (by decide +kernel))) (by decide +kernel)
theorem tw_237 : Cond.instanceMethod ⟨"NotedHouse", "turn", "(II)I"⟩ ∈ tbl := tb_in (List.mem_append_right _ (List.mem_of_getElem? (i := 237) (by decide +kernel))) (by decide +kernel)
theorem tw_238 : Cond.selects "NotedHouse" ⟨"NotedHouse", "turn", "(II)I"⟩ ⟨"NotedHouse", "turn", "(II)I"⟩ ∈ tbl := tb_in (List.mem_append_right _ (List.mem_of_getElem? (i := 238) (by decide +kernel))) (by decide +kernel)
theorem tw_239 : Cond.code ⟨"NotedHouse", "turn", "(II)I"⟩ prog_1_method_8_code (4 : Nat) (Option.some FieldType.int) ∈ tbl := tb_in (List.mem_append_right _ (List.mem_of_getElem? (i := 239) (by decide +kernel))) (by decide +kernel)
theorem tw_240 : Cond.methodLink "NotedHouseLaw" (44 : Nat) ⟨"NotedHouse", "as", "(II)I"⟩ ∈ tbl := tb_in (List.mem_append_right _ (List.mem_of_getElem? (i := 240) (by decide +kernel))) (by decide +kernel)
theorem tw_241 : Cond.instanceMethod ⟨"NotedHouse", "as", "(II)I"⟩ ∈ tbl := tb_in (List.mem_append_right _ (List.mem_of_getElem? (i := 241) (by decide +kernel))) (by decide +kernel)
theorem tw_242 : Cond.selects "NotedHouse" ⟨"NotedHouse", "as", "(II)I"⟩ ⟨"NotedHouse", "as", "(II)I"⟩ ∈ tbl := tb_in (List.mem_append_right _ (List.mem_of_getElem? (i := 242) (by decide +kernel))) (by decide +kernel)
theorem tw_243 : Cond.code ⟨"NotedHouse", "as", "(II)I"⟩ prog_1_method_9_code (3 : Nat) (Option.some FieldType.int) ∈ tbl := tb_in (List.mem_append_right _ (List.mem_of_getElem? (i := 243) (by decide +kernel))) (by decide +kernel)
theorem tw_244 : Cond.methodLink "NotedHouse" (110 : Nat) ⟨"NotedHouse", "isUnder", "(II)Z"⟩ ∈ tbl := tb_in (List.mem_append_right _ (List.mem_of_getElem? (i := 244) (by decide +kernel))) (by decide +kernel)
theorem tw_245 : Cond.static ⟨"NotedHouse", "isUnder", "(II)Z"⟩ ∈ tbl := tb_in (List.mem_append_right _ (List.mem_of_getElem? (i := 245) (by decide +kernel))) (by decide +kernel)
theorem tw_246 : Cond.code ⟨"NotedHouse", "isUnder", "(II)Z"⟩ prog_1_method_47_code (4 : Nat) (Option.some FieldType.boolean) ∈ tbl := tb_in (List.mem_append_right _ (List.mem_of_getElem? (i := 246) (by decide +kernel))) (by decide +kernel)
theorem tw_247 : Cond.fieldLink "NotedHouse" (212 : Nat) "NotedHouse" "KIND_ABOVE" "[I" ∈ tbl := tb_in (List.mem_append_right _ (List.mem_of_getElem? (i := 247) (by decide +kernel))) (by decide +kernel)
theorem tw_248 : Cond.laysStatic "NotedHouse" "KIND_ABOVE" "[I" ∈ tbl := tb_in (List.mem_append_right _ (List.mem_of_getElem? (i := 248) (by decide +kernel))) (by decide +kernel)
theorem tw_249 : Cond.constant "NotedHouse" (114 : Nat) (-1000000003 : Int32) ∈ tbl := tb_in (List.mem_append_right _ (List.mem_of_getElem? (i := 249) (by decide +kernel))) (by decide +kernel)
theorem tw_250 : Cond.methodLink "NotedHouseLaw" (48 : Nat) ⟨"NotedHouse", "swap", "(II)I"⟩ ∈ tbl := tb_in (List.mem_append_right _ (List.mem_of_getElem? (i := 250) (by decide +kernel))) (by decide +kernel)
theorem tw_251 : Cond.instanceMethod ⟨"NotedHouse", "swap", "(II)I"⟩ ∈ tbl := tb_in (List.mem_append_right _ (List.mem_of_getElem? (i := 251) (by decide +kernel))) (by decide +kernel)
theorem tw_252 : Cond.selects "NotedHouse" ⟨"NotedHouse", "swap", "(II)I"⟩ ⟨"NotedHouse", "swap", "(II)I"⟩ ∈ tbl := tb_in (List.mem_append_right _ (List.mem_of_getElem? (i := 252) (by decide +kernel))) (by decide +kernel)
theorem tw_253 : Cond.code ⟨"NotedHouse", "swap", "(II)I"⟩ prog_1_method_10_code (3 : Nat) (Option.some FieldType.int) ∈ tbl := tb_in (List.mem_append_right _ (List.mem_of_getElem? (i := 253) (by decide +kernel))) (by decide +kernel)
theorem tw_254 : Cond.methodLinkNest "NotedHouse" (115 : Nat) ⟨"NotedHouse$House", "changeSeats", "(II)V"⟩ "NotedHouse" ∈ tbl := tb_in (List.mem_append_right _ (List.mem_of_getElem? (i := 254) (by decide +kernel))) (by decide +kernel)
theorem tw_255 : Cond.privateMethod ⟨"NotedHouse$House", "changeSeats", "(II)V"⟩ ∈ tbl := tb_in (List.mem_append_right _ (List.mem_of_getElem? (i := 255) (by decide +kernel))) (by decide +kernel)
theorem tw_256 : Cond.instanceMethod ⟨"NotedHouse$House", "changeSeats", "(II)V"⟩ ∈ tbl := tb_in (List.mem_append_right _ (List.mem_of_getElem? (i := 256) (by decide +kernel))) (by decide +kernel)
theorem tw_257 : Cond.code ⟨"NotedHouse$House", "changeSeats", "(II)V"⟩ prog_2_method_4_code (3 : Nat) none ∈ tbl := tb_in (List.mem_append_right _ (List.mem_of_getElem? (i := 257) (by decide +kernel))) (by decide +kernel)
theorem tw_258 : Cond.methodLink "NotedHouse$House" (49 : Nat) ⟨"NotedHouse$House", "exchange", "([III)V"⟩ ∈ tbl := tb_in (List.mem_append_right _ (List.mem_of_getElem? (i := 258) (by decide +kernel))) (by decide +kernel)
theorem tw_259 : Cond.static ⟨"NotedHouse$House", "exchange", "([III)V"⟩ ∈ tbl := tb_in (List.mem_append_right _ (List.mem_of_getElem? (i := 259) (by decide +kernel))) (by decide +kernel)
theorem tw_260 : Cond.code ⟨"NotedHouse$House", "exchange", "([III)V"⟩ prog_2_method_5_code (4 : Nat) none ∈ tbl := tb_in (List.mem_append_right _ (List.mem_of_getElem? (i := 260) (by decide +kernel))) (by decide +kernel)
theorem tw_261 : Cond.methodLink "NotedHouseLaw" (52 : Nat) ⟨"NotedHouse", "moments", "(I)I"⟩ ∈ tbl := tb_in (List.mem_append_right _ (List.mem_of_getElem? (i := 261) (by decide +kernel))) (by decide +kernel)
theorem tw_262 : Cond.instanceMethod ⟨"NotedHouse", "moments", "(I)I"⟩ ∈ tbl := tb_in (List.mem_append_right _ (List.mem_of_getElem? (i := 262) (by decide +kernel))) (by decide +kernel)
theorem tw_263 : Cond.selects "NotedHouse" ⟨"NotedHouse", "moments", "(I)I"⟩ ⟨"NotedHouse", "moments", "(I)I"⟩ ∈ tbl := tb_in (List.mem_append_right _ (List.mem_of_getElem? (i := 263) (by decide +kernel))) (by decide +kernel)
theorem tw_264 : Cond.code ⟨"NotedHouse", "moments", "(I)I"⟩ prog_1_method_11_code (2 : Nat) (Option.some FieldType.int) ∈ tbl := tb_in (List.mem_append_right _ (List.mem_of_getElem? (i := 264) (by decide +kernel))) (by decide +kernel)
theorem tw_265 : Cond.constant "NotedHouse" (119 : Nat) (-1000000005 : Int32) ∈ tbl := tb_in (List.mem_append_right _ (List.mem_of_getElem? (i := 265) (by decide +kernel))) (by decide +kernel)
theorem tw_266 : Cond.methodLinkNest "NotedHouse" (120 : Nat) ⟨"NotedHouse$House", "goOn", "(I)V"⟩ "NotedHouse" ∈ tbl := tb_in (List.mem_append_right _ (List.mem_of_getElem? (i := 266) (by decide +kernel))) (by decide +kernel)
theorem tw_267 : Cond.privateMethod ⟨"NotedHouse$House", "goOn", "(I)V"⟩ ∈ tbl := tb_in (List.mem_append_right _ (List.mem_of_getElem? (i := 267) (by decide +kernel))) (by decide +kernel)
theorem tw_268 : Cond.instanceMethod ⟨"NotedHouse$House", "goOn", "(I)V"⟩ ∈ tbl := tb_in (List.mem_append_right _ (List.mem_of_getElem? (i := 268) (by decide +kernel))) (by decide +kernel)
theorem tw_269 : Cond.code ⟨"NotedHouse$House", "goOn", "(I)V"⟩ prog_2_method_19_code (3 : Nat) none ∈ tbl := tb_in (List.mem_append_right _ (List.mem_of_getElem? (i := 269) (by decide +kernel))) (by decide +kernel)
theorem tw_270 : Cond.methodLink "NotedHouse$House" (82 : Nat) ⟨"NotedHouse$House", "go", "()V"⟩ ∈ tbl := tb_in (List.mem_append_right _ (List.mem_of_getElem? (i := 270) (by decide +kernel))) (by decide +kernel)
theorem tw_271 : Cond.privateMethod ⟨"NotedHouse$House", "go", "()V"⟩ ∈ tbl := tb_in (List.mem_append_right _ (List.mem_of_getElem? (i := 271) (by decide +kernel))) (by decide +kernel)
theorem tw_272 : Cond.instanceMethod ⟨"NotedHouse$House", "go", "()V"⟩ ∈ tbl := tb_in (List.mem_append_right _ (List.mem_of_getElem? (i := 272) (by decide +kernel))) (by decide +kernel)
theorem tw_273 : Cond.code ⟨"NotedHouse$House", "go", "()V"⟩ prog_2_method_20_code (3 : Nat) none ∈ tbl := tb_in (List.mem_append_right _ (List.mem_of_getElem? (i := 273) (by decide +kernel))) (by decide +kernel)
theorem tw_274 : Cond.methodLinkNest "NotedHouse$House" (85 : Nat) ⟨"NotedHouse", "scoreFor", "(III)I"⟩ "NotedHouse" ∈ tbl := tb_in (List.mem_append_right _ (List.mem_of_getElem? (i := 274) (by decide +kernel))) (by decide +kernel)
theorem tw_275 : Cond.methodLinkNest "NotedHouse$House" (89 : Nat) ⟨"NotedHouse", "held", "(III)I"⟩ "NotedHouse" ∈ tbl := tb_in (List.mem_append_right _ (List.mem_of_getElem? (i := 275) (by decide +kernel))) (by decide +kernel)
theorem tw_276 : Cond.static ⟨"NotedHouse", "held", "(III)I"⟩ ∈ tbl := tb_in (List.mem_append_right _ (List.mem_of_getElem? (i := 276) (by decide +kernel))) (by decide +kernel)
theorem tw_277 : Cond.code ⟨"NotedHouse", "held", "(III)I"⟩ prog_1_method_46_code (3 : Nat) (Option.some FieldType.int) ∈ tbl := tb_in (List.mem_append_right _ (List.mem_of_getElem? (i := 277) (by decide +kernel))) (by decide +kernel)
theorem tw_278 : Cond.methodLink "NotedHouse" (204 : Nat) ⟨"java/lang/Math", "min", "(II)I"⟩ ∈ tbl := tb_in (List.mem_append_right _ (List.mem_of_getElem? (i := 278) (by decide +kernel))) (by decide +kernel)
theorem tw_279 : Cond.static ⟨"java/lang/Math", "min", "(II)I"⟩ ∈ tbl := tb_in (List.mem_append_right _ (List.mem_of_getElem? (i := 279) (by decide +kernel))) (by decide +kernel)
theorem tw_280 : Cond.code ⟨"java/lang/Math", "min", "(II)I"⟩ prog_7_method_69_code (2 : Nat) (Option.some FieldType.int) ∈ tbl := tb_in (List.mem_append_right _ (List.mem_of_getElem? (i := 280) (by decide +kernel))) (by decide +kernel)
theorem tw_281 : Cond.methodLink "NotedHouse$House" (92 : Nat) ⟨"NotedHouse$House", "endNight", "()V"⟩ ∈ tbl := tb_in (List.mem_append_right _ (List.mem_of_getElem? (i := 281) (by decide +kernel))) (by decide +kernel)
theorem tw_282 : Cond.privateMethod ⟨"NotedHouse$House", "endNight", "()V"⟩ ∈ tbl := tb_in (List.mem_append_right _ (List.mem_of_getElem? (i := 282) (by decide +kernel))) (by decide +kernel)
theorem tw_283 : Cond.instanceMethod ⟨"NotedHouse$House", "endNight", "()V"⟩ ∈ tbl := tb_in (List.mem_append_right _ (List.mem_of_getElem? (i := 283) (by decide +kernel))) (by decide +kernel)
theorem tw_284 : Cond.code ⟨"NotedHouse$House", "endNight", "()V"⟩ prog_2_method_21_code (2 : Nat) none ∈ tbl := tb_in (List.mem_append_right _ (List.mem_of_getElem? (i := 284) (by decide +kernel))) (by decide +kernel)
theorem tw_285 : Cond.methodLinkNest "NotedHouse$House" (95 : Nat) ⟨"NotedHouse", "staleness", "(I)I"⟩ "NotedHouse" ∈ tbl := tb_in (List.mem_append_right _ (List.mem_of_getElem? (i := 285) (by decide +kernel))) (by decide +kernel)
theorem tw_286 : Cond.methodLink "NotedHouseLaw" (56 : Nat) ⟨"NotedHouse", "note", "(II)I"⟩ ∈ tbl := tb_in (List.mem_append_right _ (List.mem_of_getElem? (i := 286) (by decide +kernel))) (by decide +kernel)
theorem tw_287 : Cond.instanceMethod ⟨"NotedHouse", "note", "(II)I"⟩ ∈ tbl := tb_in (List.mem_append_right _ (List.mem_of_getElem? (i := 287) (by decide +kernel))) (by decide +kernel)
theorem tw_288 : Cond.selects "NotedHouse" ⟨"NotedHouse", "note", "(II)I"⟩ ⟨"NotedHouse", "note", "(II)I"⟩ ∈ tbl := tb_in (List.mem_append_right _ (List.mem_of_getElem? (i := 288) (by decide +kernel))) (by decide +kernel)
theorem tw_289 : Cond.code ⟨"NotedHouse", "note", "(II)I"⟩ prog_1_method_12_code (3 : Nat) (Option.some FieldType.int) ∈ tbl := tb_in (List.mem_append_right _ (List.mem_of_getElem? (i := 289) (by decide +kernel))) (by decide +kernel)
theorem tw_290 : Cond.methodLink "NotedHouse" (124 : Nat) ⟨"NotedHouse", "startTrial", "()V"⟩ ∈ tbl := tb_in (List.mem_append_right _ (List.mem_of_getElem? (i := 290) (by decide +kernel))) (by decide +kernel)
theorem tw_291 : Cond.privateMethod ⟨"NotedHouse", "startTrial", "()V"⟩ ∈ tbl := tb_in (List.mem_append_right _ (List.mem_of_getElem? (i := 291) (by decide +kernel))) (by decide +kernel)
theorem tw_292 : Cond.instanceMethod ⟨"NotedHouse", "startTrial", "()V"⟩ ∈ tbl := tb_in (List.mem_append_right _ (List.mem_of_getElem? (i := 292) (by decide +kernel))) (by decide +kernel)
theorem tw_293 : Cond.code ⟨"NotedHouse", "startTrial", "()V"⟩ prog_1_method_40_code (1 : Nat) none ∈ tbl := tb_in (List.mem_append_right _ (List.mem_of_getElem? (i := 293) (by decide +kernel))) (by decide +kernel)
theorem tw_294 : Cond.methodLinkNest "NotedHouse" (153 : Nat) ⟨"NotedHouse$House", "become", "(LNotedHouse$House;)V"⟩ "NotedHouse" ∈ tbl := tb_in (List.mem_append_right _ (List.mem_of_getElem? (i := 294) (by decide +kernel))) (by decide +kernel)
theorem tw_295 : Cond.privateMethod ⟨"NotedHouse$House", "become", "(LNotedHouse$House;)V"⟩ ∈ tbl := tb_in (List.mem_append_right _ (List.mem_of_getElem? (i := 295) (by decide +kernel))) (by decide +kernel)
theorem tw_296 : Cond.instanceMethod ⟨"NotedHouse$House", "become", "(LNotedHouse$House;)V"⟩ ∈ tbl := tb_in (List.mem_append_right _ (List.mem_of_getElem? (i := 296) (by decide +kernel))) (by decide +kernel)
theorem tw_297 : Cond.code ⟨"NotedHouse$House", "become", "(LNotedHouse$House;)V"⟩ prog_2_method_2_code (2 : Nat) none ∈ tbl := tb_in (List.mem_append_right _ (List.mem_of_getElem? (i := 297) (by decide +kernel))) (by decide +kernel)
theorem tw_298 : Cond.methodLink "NotedHouse$House" (43 : Nat) ⟨"java/lang/System", "arraycopy", "(Ljava/lang/Object;ILjava/lang/Object;II)V"⟩ ∈ tbl := tb_in (List.mem_append_right _ (List.mem_of_getElem? (i := 298) (by decide +kernel))) (by decide +kernel)
theorem tw_299 : Cond.static ⟨"java/lang/System", "arraycopy", "(Ljava/lang/Object;ILjava/lang/Object;II)V"⟩ ∈ tbl := tb_in (List.mem_append_right _ (List.mem_of_getElem? (i := 299) (by decide +kernel))) (by decide +kernel)
theorem tw_300 : Cond.native ⟨"java/lang/System", "arraycopy", "(Ljava/lang/Object;ILjava/lang/Object;II)V"⟩ ∈ tbl := tb_in (List.mem_append_right _ (List.mem_of_getElem? (i := 300) (by decide +kernel))) (by decide +kernel)
theorem tw_301 : Cond.methodLink "NotedHouseLaw" (60 : Nat) ⟨"NotedHouse", "on", "(III)I"⟩ ∈ tbl := tb_in (List.mem_append_right _ (List.mem_of_getElem? (i := 301) (by decide +kernel))) (by decide +kernel)
theorem tw_302 : Cond.instanceMethod ⟨"NotedHouse", "on", "(III)I"⟩ ∈ tbl := tb_in (List.mem_append_right _ (List.mem_of_getElem? (i := 302) (by decide +kernel))) (by decide +kernel)
theorem tw_303 : Cond.selects "NotedHouse" ⟨"NotedHouse", "on", "(III)I"⟩ ⟨"NotedHouse", "on", "(III)I"⟩ ∈ tbl := tb_in (List.mem_append_right _ (List.mem_of_getElem? (i := 303) (by decide +kernel))) (by decide +kernel)
theorem tw_304 : Cond.code ⟨"NotedHouse", "on", "(III)I"⟩ prog_1_method_13_code (4 : Nat) (Option.some FieldType.int) ∈ tbl := tb_in (List.mem_append_right _ (List.mem_of_getElem? (i := 304) (by decide +kernel))) (by decide +kernel)
theorem tw_305 : Cond.methodLink "NotedHouseLaw" (64 : Nat) ⟨"NotedHouse", "house", "(I)I"⟩ ∈ tbl := tb_in (List.mem_append_right _ (List.mem_of_getElem? (i := 305) (by decide +kernel))) (by decide +kernel)
theorem tw_306 : Cond.instanceMethod ⟨"NotedHouse", "house", "(I)I"⟩ ∈ tbl := tb_in (List.mem_append_right _ (List.mem_of_getElem? (i := 306) (by decide +kernel))) (by decide +kernel)
theorem tw_307 : Cond.selects "NotedHouse" ⟨"NotedHouse", "house", "(I)I"⟩ ⟨"NotedHouse", "house", "(I)I"⟩ ∈ tbl := tb_in (List.mem_append_right _ (List.mem_of_getElem? (i := 307) (by decide +kernel))) (by decide +kernel)
theorem tw_308 : Cond.code ⟨"NotedHouse", "house", "(I)I"⟩ prog_1_method_14_code (2 : Nat) (Option.some FieldType.int) ∈ tbl := tb_in (List.mem_append_right _ (List.mem_of_getElem? (i := 308) (by decide +kernel))) (by decide +kernel)
theorem tw_309 : Cond.methodLinkNest "NotedHouse" (127 : Nat) ⟨"NotedHouse$House", "allNotesOn", "(I)I"⟩ "NotedHouse" ∈ tbl := tb_in (List.mem_append_right _ (List.mem_of_getElem? (i := 309) (by decide +kernel))) (by decide +kernel)
theorem tw_310 : Cond.privateMethod ⟨"NotedHouse$House", "allNotesOn", "(I)I"⟩ ∈ tbl := tb_in (List.mem_append_right _ (List.mem_of_getElem? (i := 310) (by decide +kernel))) (by decide +kernel)
theorem tw_311 : Cond.instanceMethod ⟨"NotedHouse$House", "allNotesOn", "(I)I"⟩ ∈ tbl := tb_in (List.mem_append_right _ (List.mem_of_getElem? (i := 311) (by decide +kernel))) (by decide +kernel)
theorem tw_312 : Cond.code ⟨"NotedHouse$House", "allNotesOn", "(I)I"⟩ prog_2_method_18_code (2 : Nat) (Option.some FieldType.int) ∈ tbl := tb_in (List.mem_append_right _ (List.mem_of_getElem? (i := 312) (by decide +kernel))) (by decide +kernel)
theorem tw_313 : Cond.methodLink "NotedHouse$House" (74 : Nat) ⟨"NotedHouse$House", "goOn", "(I)V"⟩ ∈ tbl := tb_in (List.mem_append_right _ (List.mem_of_getElem? (i := 313) (by decide +kernel))) (by decide +kernel)
theorem tw_314 : Cond.methodLink "NotedHouse$House" (78 : Nat) ⟨"NotedHouse$House", "allNotes", "()I"⟩ ∈ tbl := tb_in (List.mem_append_right _ (List.mem_of_getElem? (i := 314) (by decide +kernel))) (by decide +kernel)
theorem tw_315 : Cond.methodLink "NotedHouseLaw" (68 : Nat) ⟨"NotedHouse", "heard", "(II)I"⟩ ∈ tbl := tb_in (List.mem_append_right _ (List.mem_of_getElem? (i := 315) (by decide +kernel))) (by decide +kernel)
theorem tw_316 : Cond.instanceMethod ⟨"NotedHouse", "heard", "(II)I"⟩ ∈ tbl := tb_in (List.mem_append_right _ (List.mem_of_getElem? (i := 316) (by decide +kernel))) (by decide +kernel)
theorem tw_317 : Cond.selects "NotedHouse" ⟨"NotedHouse", "heard", "(II)I"⟩ ⟨"NotedHouse", "heard", "(II)I"⟩ ∈ tbl := tb_in (List.mem_append_right _ (List.mem_of_getElem? (i := 317) (by decide +kernel))) (by decide +kernel)
theorem tw_318 : Cond.code ⟨"NotedHouse", "heard", "(II)I"⟩ prog_1_method_15_code (3 : Nat) (Option.some FieldType.int) ∈ tbl := tb_in (List.mem_append_right _ (List.mem_of_getElem? (i := 318) (by decide +kernel))) (by decide +kernel)
theorem tw_319 : Cond.methodLinkNest "NotedHouse" (130 : Nat) ⟨"NotedHouse$House", "howManyDo", "(I)I"⟩ "NotedHouse" ∈ tbl := tb_in (List.mem_append_right _ (List.mem_of_getElem? (i := 319) (by decide +kernel))) (by decide +kernel)
theorem tw_320 : Cond.privateMethod ⟨"NotedHouse$House", "howManyDo", "(I)I"⟩ ∈ tbl := tb_in (List.mem_append_right _ (List.mem_of_getElem? (i := 320) (by decide +kernel))) (by decide +kernel)
theorem tw_321 : Cond.instanceMethod ⟨"NotedHouse$House", "howManyDo", "(I)I"⟩ ∈ tbl := tb_in (List.mem_append_right _ (List.mem_of_getElem? (i := 321) (by decide +kernel))) (by decide +kernel)
theorem tw_322 : Cond.code ⟨"NotedHouse$House", "howManyDo", "(I)I"⟩ prog_2_method_12_code (4 : Nat) (Option.some FieldType.int) ∈ tbl := tb_in (List.mem_append_right _ (List.mem_of_getElem? (i := 322) (by decide +kernel))) (by decide +kernel)
theorem tw_323 : Cond.methodLink "NotedHouseLaw" (72 : Nat) ⟨"NotedHouse", "does", "(II)I"⟩ ∈ tbl := tb_in (List.mem_append_right _ (List.mem_of_getElem? (i := 323) (by decide +kernel))) (by decide +kernel)
theorem tw_324 : Cond.instanceMethod ⟨"NotedHouse", "does", "(II)I"⟩ ∈ tbl := tb_in (List.mem_append_right _ (List.mem_of_getElem? (i := 324) (by decide +kernel))) (by decide +kernel)
theorem tw_325 : Cond.selects "NotedHouse" ⟨"NotedHouse", "does", "(II)I"⟩ ⟨"NotedHouse", "does", "(II)I"⟩ ∈ tbl := tb_in (List.mem_append_right _ (List.mem_of_getElem? (i := 325) (by decide +kernel))) (by decide +kernel)
theorem tw_326 : Cond.code ⟨"NotedHouse", "does", "(II)I"⟩ prog_1_method_16_code (4 : Nat) (Option.some FieldType.int) ∈ tbl := tb_in (List.mem_append_right _ (List.mem_of_getElem? (i := 326) (by decide +kernel))) (by decide +kernel)
theorem tw_327 : Cond.methodLinkNest "NotedHouse" (133 : Nat) ⟨"NotedHouse$House", "go", "()V"⟩ "NotedHouse" ∈ tbl := tb_in (List.mem_append_right _ (List.mem_of_getElem? (i := 327) (by decide +kernel))) (by decide +kernel)
theorem tw_328 : Cond.constant "NotedHouse" (136 : Nat) (-1000000004 : Int32) ∈ tbl := tb_in (List.mem_append_right _ (List.mem_of_getElem? (i := 328) (by decide +kernel))) (by decide +kernel)
theorem tw_329 : Cond.methodLink "NotedHouseLaw" (76 : Nat) ⟨"NotedHouse", "comes", "(II)I"⟩ ∈ tbl := tb_in (List.mem_append_right _ (List.mem_of_getElem? (i := 329) (by decide +kernel))) (by decide +kernel)
theorem tw_330 : Cond.instanceMethod ⟨"NotedHouse", "comes", "(II)I"⟩ ∈ tbl := tb_in (List.mem_append_right _ (List.mem_of_getElem? (i := 330) (by decide +kernel))) (by decide +kernel)
theorem tw_331 : Cond.selects "NotedHouse" ⟨"NotedHouse", "comes", "(II)I"⟩ ⟨"NotedHouse", "comes", "(II)I"⟩ ∈ tbl := tb_in (List.mem_append_right _ (List.mem_of_getElem? (i := 331) (by decide +kernel))) (by decide +kernel)
theorem tw_332 : Cond.code ⟨"NotedHouse", "comes", "(II)I"⟩ prog_1_method_17_code (4 : Nat) (Option.some FieldType.int) ∈ tbl := tb_in (List.mem_append_right _ (List.mem_of_getElem? (i := 332) (by decide +kernel))) (by decide +kernel)
theorem tw_333 : Cond.methodLink "NotedHouseLaw" (80 : Nat) ⟨"NotedHouse", "place", "(II)I"⟩ ∈ tbl := tb_in (List.mem_append_right _ (List.mem_of_getElem? (i := 333) (by decide +kernel))) (by decide +kernel)
theorem tw_334 : Cond.instanceMethod ⟨"NotedHouse", "place", "(II)I"⟩ ∈ tbl := tb_in (List.mem_append_right _ (List.mem_of_getElem? (i := 334) (by decide +kernel))) (by decide +kernel)
theorem tw_335 : Cond.selects "NotedHouse" ⟨"NotedHouse", "place", "(II)I"⟩ ⟨"NotedHouse", "place", "(II)I"⟩ ∈ tbl := tb_in (List.mem_append_right _ (List.mem_of_getElem? (i := 335) (by decide +kernel))) (by decide +kernel)
theorem tw_336 : Cond.code ⟨"NotedHouse", "place", "(II)I"⟩ prog_1_method_18_code (7 : Nat) (Option.some FieldType.int) ∈ tbl := tb_in (List.mem_append_right _ (List.mem_of_getElem? (i := 336) (by decide +kernel))) (by decide +kernel)
theorem tw_337 : Cond.methodLink "NotedHouseLaw" (84 : Nat) ⟨"NotedHouse", "kind", "(II)I"⟩ ∈ tbl := tb_in (List.mem_append_right _ (List.mem_of_getElem? (i := 337) (by decide +kernel))) (by decide +kernel)
theorem tw_338 : Cond.instanceMethod ⟨"NotedHouse", "kind", "(II)I"⟩ ∈ tbl := tb_in (List.mem_append_right _ (List.mem_of_getElem? (i := 338) (by decide +kernel))) (by decide +kernel)
theorem tw_339 : Cond.selects "NotedHouse" ⟨"NotedHouse", "kind", "(II)I"⟩ ⟨"NotedHouse", "kind", "(II)I"⟩ ∈ tbl := tb_in (List.mem_append_right _ (List.mem_of_getElem? (i := 339) (by decide +kernel))) (by decide +kernel)
theorem tw_340 : Cond.code ⟨"NotedHouse", "kind", "(II)I"⟩ prog_1_method_19_code (6 : Nat) (Option.some FieldType.int) ∈ tbl := tb_in (List.mem_append_right _ (List.mem_of_getElem? (i := 340) (by decide +kernel))) (by decide +kernel)
theorem tw_341 : Cond.methodLink "NotedHouseLaw" (88 : Nat) ⟨"NotedHouse", "fresh", "(III)I"⟩ ∈ tbl := tb_in (List.mem_append_right _ (List.mem_of_getElem? (i := 341) (by decide +kernel))) (by decide +kernel)
theorem tw_342 : Cond.instanceMethod ⟨"NotedHouse", "fresh", "(III)I"⟩ ∈ tbl := tb_in (List.mem_append_right _ (List.mem_of_getElem? (i := 342) (by decide +kernel))) (by decide +kernel)
theorem tw_343 : Cond.selects "NotedHouse" ⟨"NotedHouse", "fresh", "(III)I"⟩ ⟨"NotedHouse", "fresh", "(III)I"⟩ ∈ tbl := tb_in (List.mem_append_right _ (List.mem_of_getElem? (i := 343) (by decide +kernel))) (by decide +kernel)
theorem tw_344 : Cond.code ⟨"NotedHouse", "fresh", "(III)I"⟩ prog_1_method_20_code (5 : Nat) (Option.some FieldType.int) ∈ tbl := tb_in (List.mem_append_right _ (List.mem_of_getElem? (i := 344) (by decide +kernel))) (by decide +kernel)
theorem tw_345 : Cond.methodLink "NotedHouseLaw" (92 : Nat) ⟨"NotedHouse", "cue", "(I)I"⟩ ∈ tbl := tb_in (List.mem_append_right _ (List.mem_of_getElem? (i := 345) (by decide +kernel))) (by decide +kernel)
theorem tw_346 : Cond.instanceMethod ⟨"NotedHouse", "cue", "(I)I"⟩ ∈ tbl := tb_in (List.mem_append_right _ (List.mem_of_getElem? (i := 346) (by decide +kernel))) (by decide +kernel)
theorem tw_347 : Cond.selects "NotedHouse" ⟨"NotedHouse", "cue", "(I)I"⟩ ⟨"NotedHouse", "cue", "(I)I"⟩ ∈ tbl := tb_in (List.mem_append_right _ (List.mem_of_getElem? (i := 347) (by decide +kernel))) (by decide +kernel)
theorem tw_348 : Cond.code ⟨"NotedHouse", "cue", "(I)I"⟩ prog_1_method_21_code (6 : Nat) (Option.some FieldType.int) ∈ tbl := tb_in (List.mem_append_right _ (List.mem_of_getElem? (i := 348) (by decide +kernel))) (by decide +kernel)
theorem tw_349 : Cond.constant "NotedHouse" (137 : Nat) (-79993 : Int32) ∈ tbl := tb_in (List.mem_append_right _ (List.mem_of_getElem? (i := 349) (by decide +kernel))) (by decide +kernel)
theorem tw_350 : Cond.methodLink "NotedHouseLaw" (96 : Nat) ⟨"NotedHouse", "doze", "(I)I"⟩ ∈ tbl := tb_in (List.mem_append_right _ (List.mem_of_getElem? (i := 350) (by decide +kernel))) (by decide +kernel)
theorem tw_351 : Cond.instanceMethod ⟨"NotedHouse", "doze", "(I)I"⟩ ∈ tbl := tb_in (List.mem_append_right _ (List.mem_of_getElem? (i := 351) (by decide +kernel))) (by decide +kernel)
theorem tw_352 : Cond.selects "NotedHouse" ⟨"NotedHouse", "doze", "(I)I"⟩ ⟨"NotedHouse", "doze", "(I)I"⟩ ∈ tbl := tb_in (List.mem_append_right _ (List.mem_of_getElem? (i := 352) (by decide +kernel))) (by decide +kernel)
theorem tw_353 : Cond.code ⟨"NotedHouse", "doze", "(I)I"⟩ prog_1_method_22_code (6 : Nat) (Option.some FieldType.int) ∈ tbl := tb_in (List.mem_append_right _ (List.mem_of_getElem? (i := 353) (by decide +kernel))) (by decide +kernel)
theorem tw_354 : Cond.constant "NotedHouse" (138 : Nat) (79993 : Int32) ∈ tbl := tb_in (List.mem_append_right _ (List.mem_of_getElem? (i := 354) (by decide +kernel))) (by decide +kernel)
theorem tw_355 : Cond.methodLink "NotedHouseLaw" (100 : Nat) ⟨"NotedHouse", "tense", "(II)I"⟩ ∈ tbl := tb_in (List.mem_append_right _ (List.mem_of_getElem? (i := 355) (by decide +kernel))) (by decide +kernel)
theorem tw_356 : Cond.instanceMethod ⟨"NotedHouse", "tense", "(II)I"⟩ ∈ tbl := tb_in (List.mem_append_right _ (List.mem_of_getElem? (i := 356) (by decide +kernel))) (by decide +kernel)
theorem tw_357 : Cond.selects "NotedHouse" ⟨"NotedHouse", "tense", "(II)I"⟩ ⟨"NotedHouse", "tense", "(II)I"⟩ ∈ tbl := tb_in (List.mem_append_right _ (List.mem_of_getElem? (i := 357) (by decide +kernel))) (by decide +kernel)
theorem tw_358 : Cond.code ⟨"NotedHouse", "tense", "(II)I"⟩ prog_1_method_23_code (4 : Nat) (Option.some FieldType.int) ∈ tbl := tb_in (List.mem_append_right _ (List.mem_of_getElem? (i := 358) (by decide +kernel))) (by decide +kernel)
theorem tw_359 : Cond.methodLinkNest "NotedHouse" (139 : Nat) ⟨"NotedHouse$House", "tenseAll", "(I)V"⟩ "NotedHouse" ∈ tbl := tb_in (List.mem_append_right _ (List.mem_of_getElem? (i := 359) (by decide +kernel))) (by decide +kernel)
theorem tw_360 : Cond.privateMethod ⟨"NotedHouse$House", "tenseAll", "(I)V"⟩ ∈ tbl := tb_in (List.mem_append_right _ (List.mem_of_getElem? (i := 360) (by decide +kernel))) (by decide +kernel)
theorem tw_361 : Cond.instanceMethod ⟨"NotedHouse$House", "tenseAll", "(I)V"⟩ ∈ tbl := tb_in (List.mem_append_right _ (List.mem_of_getElem? (i := 361) (by decide +kernel))) (by decide +kernel)
theorem tw_362 : Cond.code ⟨"NotedHouse$House", "tenseAll", "(I)V"⟩ prog_2_method_6_code (3 : Nat) none ∈ tbl := tb_in (List.mem_append_right _ (List.mem_of_getElem? (i := 362) (by decide +kernel))) (by decide +kernel)
theorem tw_363 : Cond.methodLink "NotedHouseLaw" (104 : Nat) ⟨"NotedHouse", "best", "(I)I"⟩ ∈ tbl := tb_in (List.mem_append_right _ (List.mem_of_getElem? (i := 363) (by decide +kernel))) (by decide +kernel)
theorem tw_364 : Cond.instanceMethod ⟨"NotedHouse", "best", "(I)I"⟩ ∈ tbl := tb_in (List.mem_append_right _ (List.mem_of_getElem? (i := 364) (by decide +kernel))) (by decide +kernel)
theorem tw_365 : Cond.selects "NotedHouse" ⟨"NotedHouse", "best", "(I)I"⟩ ⟨"NotedHouse", "best", "(I)I"⟩ ∈ tbl := tb_in (List.mem_append_right _ (List.mem_of_getElem? (i := 365) (by decide +kernel))) (by decide +kernel)
theorem tw_366 : Cond.code ⟨"NotedHouse", "best", "(I)I"⟩ prog_1_method_24_code (5 : Nat) (Option.some FieldType.int) ∈ tbl := tb_in (List.mem_append_right _ (List.mem_of_getElem? (i := 366) (by decide +kernel))) (by decide +kernel)
theorem tw_367 : Cond.methodLink "NotedHouseLaw" (108 : Nat) ⟨"NotedHouse", "feed", "(II)I"⟩ ∈ tbl := tb_in (List.mem_append_right _ (List.mem_of_getElem? (i := 367) (by decide +kernel))) (by decide +kernel)
theorem tw_368 : Cond.instanceMethod ⟨"NotedHouse", "feed", "(II)I"⟩ ∈ tbl := tb_in (List.mem_append_right _ (List.mem_of_getElem? (i := 368) (by decide +kernel))) (by decide +kernel)
theorem tw_369 : Cond.selects "NotedHouse" ⟨"NotedHouse", "feed", "(II)I"⟩ ⟨"NotedHouse", "feed", "(II)I"⟩ ∈ tbl := tb_in (List.mem_append_right _ (List.mem_of_getElem? (i := 369) (by decide +kernel))) (by decide +kernel)
theorem tw_370 : Cond.code ⟨"NotedHouse", "feed", "(II)I"⟩ prog_1_method_25_code (4 : Nat) (Option.some FieldType.int) ∈ tbl := tb_in (List.mem_append_right _ (List.mem_of_getElem? (i := 370) (by decide +kernel))) (by decide +kernel)
theorem tw_371 : Cond.methodLinkNest "NotedHouse" (145 : Nat) ⟨"NotedHouse$Text", "add", "(B)V"⟩ "NotedHouse" ∈ tbl := tb_in (List.mem_append_right _ (List.mem_of_getElem? (i := 371) (by decide +kernel))) (by decide +kernel)
theorem tw_372 : Cond.privateMethod ⟨"NotedHouse$Text", "add", "(B)V"⟩ ∈ tbl := tb_in (List.mem_append_right _ (List.mem_of_getElem? (i := 372) (by decide +kernel))) (by decide +kernel)
theorem tw_373 : Cond.instanceMethod ⟨"NotedHouse$Text", "add", "(B)V"⟩ ∈ tbl := tb_in (List.mem_append_right _ (List.mem_of_getElem? (i := 373) (by decide +kernel))) (by decide +kernel)
theorem tw_374 : Cond.code ⟨"NotedHouse$Text", "add", "(B)V"⟩ prog_4_method_2_code (2 : Nat) none ∈ tbl := tb_in (List.mem_append_right _ (List.mem_of_getElem? (i := 374) (by decide +kernel))) (by decide +kernel)
theorem tw_375 : Cond.methodLink "NotedHouseLaw" (112 : Nat) ⟨"NotedHouse", "wipe", "()I"⟩ ∈ tbl := tb_in (List.mem_append_right _ (List.mem_of_getElem? (i := 375) (by decide +kernel))) (by decide +kernel)
theorem tw_376 : Cond.instanceMethod ⟨"NotedHouse", "wipe", "()I"⟩ ∈ tbl := tb_in (List.mem_append_right _ (List.mem_of_getElem? (i := 376) (by decide +kernel))) (by decide +kernel)
theorem tw_377 : Cond.selects "NotedHouse" ⟨"NotedHouse", "wipe", "()I"⟩ ⟨"NotedHouse", "wipe", "()I"⟩ ∈ tbl := tb_in (List.mem_append_right _ (List.mem_of_getElem? (i := 377) (by decide +kernel))) (by decide +kernel)
theorem tw_378 : Cond.code ⟨"NotedHouse", "wipe", "()I"⟩ prog_1_method_26_code (2 : Nat) (Option.some FieldType.int) ∈ tbl := tb_in (List.mem_append_right _ (List.mem_of_getElem? (i := 378) (by decide +kernel))) (by decide +kernel)
theorem tw_379 : Cond.methodLink "NotedHouseLaw" (117 : Nat) ⟨"NotedHouse", "evening", "()I"⟩ ∈ tbl := tb_in (List.mem_append_right _ (List.mem_of_getElem? (i := 379) (by decide +kernel))) (by decide +kernel)
theorem tw_380 : Cond.instanceMethod ⟨"NotedHouse", "evening", "()I"⟩ ∈ tbl := tb_in (List.mem_append_right _ (List.mem_of_getElem? (i := 380) (by decide +kernel))) (by decide +kernel)
theorem tw_381 : Cond.selects "NotedHouse" ⟨"NotedHouse", "evening", "()I"⟩ ⟨"NotedHouse", "evening", "()I"⟩ ∈ tbl := tb_in (List.mem_append_right _ (List.mem_of_getElem? (i := 381) (by decide +kernel))) (by decide +kernel)
theorem tw_382 : Cond.code ⟨"NotedHouse", "evening", "()I"⟩ prog_1_method_27_code (2 : Nat) (Option.some FieldType.int) ∈ tbl := tb_in (List.mem_append_right _ (List.mem_of_getElem? (i := 382) (by decide +kernel))) (by decide +kernel)
theorem tw_383 : Cond.methodLinkNest "NotedHouse" (149 : Nat) ⟨"NotedHouse$Text", "tellTo", "(LNotedHouse$House;)I"⟩ "NotedHouse" ∈ tbl := tb_in (List.mem_append_right _ (List.mem_of_getElem? (i := 383) (by decide +kernel))) (by decide +kernel)
theorem tw_384 : Cond.privateMethod ⟨"NotedHouse$Text", "tellTo", "(LNotedHouse$House;)I"⟩ ∈ tbl := tb_in (List.mem_append_right _ (List.mem_of_getElem? (i := 384) (by decide +kernel))) (by decide +kernel)
theorem tw_385 : Cond.instanceMethod ⟨"NotedHouse$Text", "tellTo", "(LNotedHouse$House;)I"⟩ ∈ tbl := tb_in (List.mem_append_right _ (List.mem_of_getElem? (i := 385) (by decide +kernel))) (by decide +kernel)
theorem tw_386 : Cond.code ⟨"NotedHouse$Text", "tellTo", "(LNotedHouse$House;)I"⟩ prog_4_method_3_code (3 : Nat) (Option.some FieldType.int) ∈ tbl := tb_in (List.mem_append_right _ (List.mem_of_getElem? (i := 386) (by decide +kernel))) (by decide +kernel)
theorem tw_387 : Cond.methodLink "NotedHouse$Text" (31 : Nat) ⟨"NotedHouse$Text", "take", "()V"⟩ ∈ tbl := tb_in (List.mem_append_right _ (List.mem_of_getElem? (i := 387) (by decide +kernel))) (by decide +kernel)
theorem tw_388 : Cond.privateMethod ⟨"NotedHouse$Text", "take", "()V"⟩ ∈ tbl := tb_in (List.mem_append_right _ (List.mem_of_getElem? (i := 388) (by decide +kernel))) (by decide +kernel)
theorem tw_389 : Cond.instanceMethod ⟨"NotedHouse$Text", "take", "()V"⟩ ∈ tbl := tb_in (List.mem_append_right _ (List.mem_of_getElem? (i := 389) (by decide +kernel))) (by decide +kernel)
theorem tw_390 : Cond.code ⟨"NotedHouse$Text", "take", "()V"⟩ prog_4_method_15_code (1 : Nat) none ∈ tbl := tb_in (List.mem_append_right _ (List.mem_of_getElem? (i := 390) (by decide +kernel))) (by decide +kernel)
theorem tw_391 : Cond.methodLink "NotedHouse$Text" (133 : Nat) ⟨"NotedHouse$Text", "isLetter", "(B)Z"⟩ ∈ tbl := tb_in (List.mem_append_right _ (List.mem_of_getElem? (i := 391) (by decide +kernel))) (by decide +kernel)
theorem tw_392 : Cond.static ⟨"NotedHouse$Text", "isLetter", "(B)Z"⟩ ∈ tbl := tb_in (List.mem_append_right _ (List.mem_of_getElem? (i := 392) (by decide +kernel))) (by decide +kernel)
theorem tw_393 : Cond.code ⟨"NotedHouse$Text", "isLetter", "(B)Z"⟩ prog_4_method_18_code (1 : Nat) (Option.some FieldType.boolean) ∈ tbl := tb_in (List.mem_append_right _ (List.mem_of_getElem? (i := 393) (by decide +kernel))) (by decide +kernel)
theorem tw_394 : Cond.methodLink "NotedHouse$Text" (137 : Nat) ⟨"NotedHouse$Text", "takeWord", "()V"⟩ ∈ tbl := tb_in (List.mem_append_right _ (List.mem_of_getElem? (i := 394) (by decide +kernel))) (by decide +kernel)
theorem tw_395 : Cond.privateMethod ⟨"NotedHouse$Text", "takeWord", "()V"⟩ ∈ tbl := tb_in (List.mem_append_right _ (List.mem_of_getElem? (i := 395) (by decide +kernel))) (by decide +kernel)
theorem tw_396 : Cond.instanceMethod ⟨"NotedHouse$Text", "takeWord", "()V"⟩ ∈ tbl := tb_in (List.mem_append_right _ (List.mem_of_getElem? (i := 396) (by decide +kernel))) (by decide +kernel)
theorem tw_397 : Cond.code ⟨"NotedHouse$Text", "takeWord", "()V"⟩ prog_4_method_16_code (1 : Nat) none ∈ tbl := tb_in (List.mem_append_right _ (List.mem_of_getElem? (i := 397) (by decide +kernel))) (by decide +kernel)
theorem tw_398 : Cond.methodLink "NotedHouse$Text" (140 : Nat) ⟨"NotedHouse$Text", "isDigit", "(B)Z"⟩ ∈ tbl := tb_in (List.mem_append_right _ (List.mem_of_getElem? (i := 398) (by decide +kernel))) (by decide +kernel)
theorem tw_399 : Cond.static ⟨"NotedHouse$Text", "isDigit", "(B)Z"⟩ ∈ tbl := tb_in (List.mem_append_right _ (List.mem_of_getElem? (i := 399) (by decide +kernel))) (by decide +kernel)
theorem tw_400 : Cond.code ⟨"NotedHouse$Text", "isDigit", "(B)Z"⟩ prog_4_method_19_code (1 : Nat) (Option.some FieldType.boolean) ∈ tbl := tb_in (List.mem_append_right _ (List.mem_of_getElem? (i := 400) (by decide +kernel))) (by decide +kernel)
theorem tw_401 : Cond.methodLink "NotedHouse$Text" (143 : Nat) ⟨"NotedHouse$Text", "takeNumber", "()V"⟩ ∈ tbl := tb_in (List.mem_append_right _ (List.mem_of_getElem? (i := 401) (by decide +kernel))) (by decide +kernel)
theorem tw_402 : Cond.privateMethod ⟨"NotedHouse$Text", "takeNumber", "()V"⟩ ∈ tbl := tb_in (List.mem_append_right _ (List.mem_of_getElem? (i := 402) (by decide +kernel))) (by decide +kernel)
theorem tw_403 : Cond.instanceMethod ⟨"NotedHouse$Text", "takeNumber", "()V"⟩ ∈ tbl := tb_in (List.mem_append_right _ (List.mem_of_getElem? (i := 403) (by decide +kernel))) (by decide +kernel)
theorem tw_404 : Cond.code ⟨"NotedHouse$Text", "takeNumber", "()V"⟩ prog_4_method_17_code (1 : Nat) none ∈ tbl := tb_in (List.mem_append_right _ (List.mem_of_getElem? (i := 404) (by decide +kernel))) (by decide +kernel)
theorem tw_405 : Cond.methodLink "NotedHouse$Text" (146 : Nat) ⟨"java/lang/Math", "min", "(II)I"⟩ ∈ tbl := tb_in (List.mem_append_right _ (List.mem_of_getElem? (i := 405) (by decide +kernel))) (by decide +kernel)
theorem tw_406 : Cond.methodLink "NotedHouse$Text" (34 : Nat) ⟨"NotedHouse$Text", "takeItem", "(LNotedHouse$House;)Z"⟩ ∈ tbl := tb_in (List.mem_append_right _ (List.mem_of_getElem? (i := 406) (by decide +kernel))) (by decide +kernel)
theorem tw_407 : Cond.privateMethod ⟨"NotedHouse$Text", "takeItem", "(LNotedHouse$House;)Z"⟩ ∈ tbl := tb_in (List.mem_append_right _ (List.mem_of_getElem? (i := 407) (by decide +kernel))) (by decide +kernel)
theorem tw_408 : Cond.instanceMethod ⟨"NotedHouse$Text", "takeItem", "(LNotedHouse$House;)Z"⟩ ∈ tbl := tb_in (List.mem_append_right _ (List.mem_of_getElem? (i := 408) (by decide +kernel))) (by decide +kernel)
theorem tw_409 : Cond.code ⟨"NotedHouse$Text", "takeItem", "(LNotedHouse$House;)Z"⟩ prog_4_method_4_code (2 : Nat) (Option.some FieldType.boolean) ∈ tbl := tb_in (List.mem_append_right _ (List.mem_of_getElem? (i := 409) (by decide +kernel))) (by decide +kernel)
theorem tw_411 : Cond.methodLink "NotedHouse$Text" (40 : Nat) ⟨"NotedHouse$Text", "isWord", "(Ljava/lang/String;)Z"⟩ ∈ tbl := tb_in (List.mem_append_right _ (List.mem_of_getElem? (i := 411) (by decide +kernel))) (by decide +kernel)
theorem tw_412 : Cond.privateMethod ⟨"NotedHouse$Text", "isWord", "(Ljava/lang/String;)Z"⟩ ∈ tbl := tb_in (List.mem_append_right _ (List.mem_of_getElem? (i := 412) (by decide +kernel))) (by decide +kernel)
theorem tw_413 : Cond.instanceMethod ⟨"NotedHouse$Text", "isWord", "(Ljava/lang/String;)Z"⟩ ∈ tbl := tb_in (List.mem_append_right _ (List.mem_of_getElem? (i := 413) (by decide +kernel))) (by decide +kernel)
theorem tw_414 : Cond.code ⟨"NotedHouse$Text", "isWord", "(Ljava/lang/String;)Z"⟩ prog_4_method_14_code (3 : Nat) (Option.some FieldType.boolean) ∈ tbl := tb_in (List.mem_append_right _ (List.mem_of_getElem? (i := 414) (by decide +kernel))) (by decide +kernel)
theorem tw_415 : Cond.methodLink "NotedHouse$Text" (125 : Nat) ⟨"java/lang/String", "length", "()I"⟩ ∈ tbl := tb_in (List.mem_append_right _ (List.mem_of_getElem? (i := 415) (by decide +kernel))) (by decide +kernel)
theorem tw_416 : Cond.instanceMethod ⟨"java/lang/String", "length", "()I"⟩ ∈ tbl := tb_in (List.mem_append_right _ (List.mem_of_getElem? (i := 416) (by decide +kernel))) (by decide +kernel)
theorem tw_417 : Cond.selects "java/lang/String" ⟨"java/lang/String", "length", "()I"⟩ ⟨"java/lang/String", "length", "()I"⟩ ∈ tbl := tb_in (List.mem_append_right _ (List.mem_of_getElem? (i := 417) (by decide +kernel))) (by decide +kernel)
theorem tw_418 : Cond.code ⟨"java/lang/String", "length", "()I"⟩ prog_8_method_54_code (1 : Nat) (Option.some FieldType.int) ∈ tbl := tb_in (List.mem_append_right _ (List.mem_of_getElem? (i := 418) (by decide +kernel))) (by decide +kernel)
theorem tw_419 : Cond.methodLink "java/lang/String" (335 : Nat) ⟨"java/lang/String", "coder", "()B"⟩ ∈ tbl := tb_in (List.mem_append_right _ (List.mem_of_getElem? (i := 419) (by decide +kernel))) (by decide +kernel)
theorem tw_420 : Cond.instanceMethod ⟨"java/lang/String", "coder", "()B"⟩ ∈ tbl := tb_in (List.mem_append_right _ (List.mem_of_getElem? (i := 420) (by decide +kernel))) (by decide +kernel)
theorem tw_421 : Cond.selects "java/lang/String" ⟨"java/lang/String", "coder", "()B"⟩ ⟨"java/lang/String", "coder", "()B"⟩ ∈ tbl := tb_in (List.mem_append_right _ (List.mem_of_getElem? (i := 421) (by decide +kernel))) (by decide +kernel)
theorem tw_422 : Cond.code ⟨"java/lang/String", "coder", "()B"⟩ prog_8_method_152_code (1 : Nat) (Option.some FieldType.byte) ∈ tbl := tb_in (List.mem_append_right _ (List.mem_of_getElem? (i := 422) (by decide +kernel))) (by decide +kernel)
theorem tw_423 : Cond.fieldLink "java/lang/String" (38 : Nat) "java/lang/String" "COMPACT_STRINGS" "Z" ∈ tbl := tb_in (List.mem_append_right _ (List.mem_of_getElem? (i := 423) (by decide +kernel))) (by decide +kernel)
theorem tw_424 : Cond.laysStatic "java/lang/String" "COMPACT_STRINGS" "Z" ∈ tbl := tb_in (List.mem_append_right _ (List.mem_of_getElem? (i := 424) (by decide +kernel))) (by decide +kernel)
theorem tw_425 : Cond.methodLink "NotedHouse$Text" (129 : Nat) ⟨"java/lang/String", "charAt", "(I)C"⟩ ∈ tbl := tb_in (List.mem_append_right _ (List.mem_of_getElem? (i := 425) (by decide +kernel))) (by decide +kernel)
theorem tw_426 : Cond.instanceMethod ⟨"java/lang/String", "charAt", "(I)C"⟩ ∈ tbl := tb_in (List.mem_append_right _ (List.mem_of_getElem? (i := 426) (by decide +kernel))) (by decide +kernel)
theorem tw_427 : Cond.selects "java/lang/String" ⟨"java/lang/String", "charAt", "(I)C"⟩ ⟨"java/lang/String", "charAt", "(I)C"⟩ ∈ tbl := tb_in (List.mem_append_right _ (List.mem_of_getElem? (i := 427) (by decide +kernel))) (by decide +kernel)
theorem tw_428 : Cond.code ⟨"java/lang/String", "charAt", "(I)C"⟩ prog_8_method_56_code (2 : Nat) (Option.some FieldType.char) ∈ tbl := tb_in (List.mem_append_right _ (List.mem_of_getElem? (i := 428) (by decide +kernel))) (by decide +kernel)
theorem tw_429 : Cond.methodLink "java/lang/String" (492 : Nat) ⟨"java/lang/String", "isLatin1", "()Z"⟩ ∈ tbl := tb_in (List.mem_append_right _ (List.mem_of_getElem? (i := 429) (by decide +kernel))) (by decide +kernel)
theorem tw_430 : Cond.instanceMethod ⟨"java/lang/String", "isLatin1", "()Z"⟩ ∈ tbl := tb_in (List.mem_append_right _ (List.mem_of_getElem? (i := 430) (by decide +kernel))) (by decide +kernel)
theorem tw_431 : Cond.selects "java/lang/String" ⟨"java/lang/String", "isLatin1", "()Z"⟩ ⟨"java/lang/String", "isLatin1", "()Z"⟩ ∈ tbl := tb_in (List.mem_append_right _ (List.mem_of_getElem? (i := 431) (by decide +kernel))) (by decide +kernel)
theorem tw_432 : Cond.code ⟨"java/lang/String", "isLatin1", "()Z"⟩ prog_8_method_154_code (1 : Nat) (Option.some FieldType.boolean) ∈ tbl := tb_in (List.mem_append_right _ (List.mem_of_getElem? (i := 432) (by decide +kernel))) (by decide +kernel)
theorem tw_433 : Cond.methodLink "java/lang/String" (495 : Nat) ⟨"java/lang/StringLatin1", "charAt", "([BI)C"⟩ ∈ tbl := tb_in (List.mem_append_right _ (List.mem_of_getElem? (i := 433) (by decide +kernel))) (by decide +kernel)
theorem tw_434 : Cond.static ⟨"java/lang/StringLatin1", "charAt", "([BI)C"⟩ ∈ tbl := tb_in (List.mem_append_right _ (List.mem_of_getElem? (i := 434) (by decide +kernel))) (by decide +kernel)
theorem tw_435 : Cond.code ⟨"java/lang/StringLatin1", "charAt", "([BI)C"⟩ prog_9_method_2_code (2 : Nat) (Option.some FieldType.char) ∈ tbl := tb_in (List.mem_append_right _ (List.mem_of_getElem? (i := 435) (by decide +kernel))) (by decide +kernel)
theorem tw_436 : Cond.methodLink "java/lang/StringLatin1" (9 : Nat) ⟨"java/lang/String", "checkIndex", "(II)V"⟩ ∈ tbl := tb_in (List.mem_append_right _ (List.mem_of_getElem? (i := 436) (by decide +kernel))) (by decide +kernel)
theorem tw_437 : Cond.static ⟨"java/lang/String", "checkIndex", "(II)V"⟩ ∈ tbl := tb_in (List.mem_append_right _ (List.mem_of_getElem? (i := 437) (by decide +kernel))) (by decide +kernel)
theorem tw_438 : Cond.code ⟨"java/lang/String", "checkIndex", "(II)V"⟩ prog_8_method_155_code (2 : Nat) none ∈ tbl := tb_in (List.mem_append_right _ (List.mem_of_getElem? (i := 438) (by decide +kernel))) (by decide +kernel)
theorem tw_439 : Cond.fieldLink "java/lang/String" (1053 : Nat) "jdk/internal/util/Preconditions" "SIOOBE_FORMATTER" "Ljava/util/function/BiFunction;" ∈ tbl := tb_in (List.mem_append_right _ (List.mem_of_getElem? (i := 439) (by decide +kernel))) (by decide +kernel)
theorem tw_440 : Cond.laysStatic "jdk/internal/util/Preconditions" "SIOOBE_FORMATTER" "Ljava/util/function/BiFunction;" ∈ tbl := tb_in (List.mem_append_right _ (List.mem_of_getElem? (i := 440) (by decide +kernel))) (by decide +kernel)
theorem tw_441 : Cond.methodLink "java/lang/String" (1059 : Nat) ⟨"jdk/internal/util/Preconditions", "checkIndex", "(IILjava/util/function/BiFunction;)I"⟩ ∈ tbl := tb_in (List.mem_append_right _ (List.mem_of_getElem? (i := 441) (by decide +kernel))) (by decide +kernel)
theorem tw_442 : Cond.static ⟨"jdk/internal/util/Preconditions", "checkIndex", "(IILjava/util/function/BiFunction;)I"⟩ ∈ tbl := tb_in (List.mem_append_right _ (List.mem_of_getElem? (i := 442) (by decide +kernel))) (by decide +kernel)
theorem tw_443 : Cond.code ⟨"jdk/internal/util/Preconditions", "checkIndex", "(IILjava/util/function/BiFunction;)I"⟩ prog_12_method_11_code (3 : Nat) (Option.some FieldType.int) ∈ tbl := tb_in (List.mem_append_right _ (List.mem_of_getElem? (i := 443) (by decide +kernel))) (by decide +kernel)
theorem tw_444 : Cond.methodLink "java/lang/String" (498 : Nat) ⟨"java/lang/StringUTF16", "charAt", "([BI)C"⟩ ∈ tbl := tb_in (List.mem_append_right _ (List.mem_of_getElem? (i := 444) (by decide +kernel))) (by decide +kernel)
theorem tw_445 : Cond.static ⟨"java/lang/StringUTF16", "charAt", "([BI)C"⟩ ∈ tbl := tb_in (List.mem_append_right _ (List.mem_of_getElem? (i := 445) (by decide +kernel))) (by decide +kernel)
theorem tw_446 : Cond.code ⟨"java/lang/StringUTF16", "charAt", "([BI)C"⟩ prog_10_method_83_code (2 : Nat) (Option.some FieldType.char) ∈ tbl := tb_in (List.mem_append_right _ (List.mem_of_getElem? (i := 446) (by decide +kernel))) (by decide +kernel)
theorem tw_447 : Cond.methodLink "java/lang/StringUTF16" (67 : Nat) ⟨"java/lang/StringUTF16", "checkIndex", "(I[B)V"⟩ ∈ tbl := tb_in (List.mem_append_right _ (List.mem_of_getElem? (i := 447) (by decide +kernel))) (by decide +kernel)
theorem tw_448 : Cond.static ⟨"java/lang/StringUTF16", "checkIndex", "(I[B)V"⟩ ∈ tbl := tb_in (List.mem_append_right _ (List.mem_of_getElem? (i := 448) (by decide +kernel))) (by decide +kernel)
theorem tw_449 : Cond.code ⟨"java/lang/StringUTF16", "checkIndex", "(I[B)V"⟩ prog_10_method_91_code (2 : Nat) none ∈ tbl := tb_in (List.mem_append_right _ (List.mem_of_getElem? (i := 449) (by decide +kernel))) (by decide +kernel)
theorem tw_450 : Cond.methodLink "java/lang/StringUTF16" (48 : Nat) ⟨"java/lang/StringUTF16", "length", "([B)I"⟩ ∈ tbl := tb_in (List.mem_append_right _ (List.mem_of_getElem? (i := 450) (by decide +kernel))) (by decide +kernel)
theorem tw_451 : Cond.static ⟨"java/lang/StringUTF16", "length", "([B)I"⟩ ∈ tbl := tb_in (List.mem_append_right _ (List.mem_of_getElem? (i := 451) (by decide +kernel))) (by decide +kernel)
theorem tw_452 : Cond.code ⟨"java/lang/StringUTF16", "length", "([B)I"⟩ prog_10_method_6_code (1 : Nat) (Option.some FieldType.int) ∈ tbl := tb_in (List.mem_append_right _ (List.mem_of_getElem? (i := 452) (by decide +kernel))) (by decide +kernel)
theorem tw_453 : Cond.methodLink "java/lang/StringUTF16" (414 : Nat) ⟨"java/lang/String", "checkIndex", "(II)V"⟩ ∈ tbl := tb_in (List.mem_append_right _ (List.mem_of_getElem? (i := 453) (by decide +kernel))) (by decide +kernel)
theorem tw_454 : Cond.methodLink "java/lang/StringUTF16" (71 : Nat) ⟨"java/lang/StringUTF16", "getChar", "([BI)C"⟩ ∈ tbl := tb_in (List.mem_append_right _ (List.mem_of_getElem? (i := 454) (by decide +kernel))) (by decide +kernel)
theorem tw_455 : Cond.static ⟨"java/lang/StringUTF16", "getChar", "([BI)C"⟩ ∈ tbl := tb_in (List.mem_append_right _ (List.mem_of_getElem? (i := 455) (by decide +kernel))) (by decide +kernel)
theorem tw_456 : Cond.code ⟨"java/lang/StringUTF16", "getChar", "([BI)C"⟩ prog_10_method_5_code (2 : Nat) (Option.some FieldType.char) ∈ tbl := tb_in (List.mem_append_right _ (List.mem_of_getElem? (i := 456) (by decide +kernel))) (by decide +kernel)
theorem tw_457 : Cond.fieldLink "java/lang/StringUTF16" (44 : Nat) "java/lang/StringUTF16" "$assertionsDisabled" "Z" ∈ tbl := tb_in (List.mem_append_right _ (List.mem_of_getElem? (i := 457) (by decide +kernel))) (by decide +kernel)
theorem tw_458 : Cond.laysStatic "java/lang/StringUTF16" "$assertionsDisabled" "Z" ∈ tbl := tb_in (List.mem_append_right _ (List.mem_of_getElem? (i := 458) (by decide +kernel))) (by decide +kernel)
theorem tw_459 : Cond.fieldLink "java/lang/StringUTF16" (59 : Nat) "java/lang/StringUTF16" "HI_BYTE_SHIFT" "I" ∈ tbl := tb_in (List.mem_append_right _ (List.mem_of_getElem? (i := 459) (by decide +kernel))) (by decide +kernel)
theorem tw_460 : Cond.laysStatic "java/lang/StringUTF16" "HI_BYTE_SHIFT" "I" ∈ tbl := tb_in (List.mem_append_right _ (List.mem_of_getElem? (i := 460) (by decide +kernel))) (by decide +kernel)
theorem tw_461 : Cond.fieldLink "java/lang/StringUTF16" (63 : Nat) "java/lang/StringUTF16" "LO_BYTE_SHIFT" "I" ∈ tbl := tb_in (List.mem_append_right _ (List.mem_of_getElem? (i := 461) (by decide +kernel))) (by decide +kernel)
theorem tw_462 : Cond.laysStatic "java/lang/StringUTF16" "LO_BYTE_SHIFT" "I" ∈ tbl := tb_in (List.mem_append_right _ (List.mem_of_getElem? (i := 462) (by decide +kernel))) (by decide +kernel)
theorem tw_463 : Cond.methodLink "NotedHouse$Text" (44 : Nat) ⟨"NotedHouse$Text", "takeCue", "(LNotedHouse$House;)Z"⟩ ∈ tbl := tb_in (List.mem_append_right _ (List.mem_of_getElem? (i := 463) (by decide +kernel))) (by decide +kernel)
theorem tw_464 : Cond.privateMethod ⟨"NotedHouse$Text", "takeCue", "(LNotedHouse$House;)Z"⟩ ∈ tbl := tb_in (List.mem_append_right _ (List.mem_of_getElem? (i := 464) (by decide +kernel))) (by decide +kernel)
theorem tw_465 : Cond.instanceMethod ⟨"NotedHouse$Text", "takeCue", "(LNotedHouse$House;)Z"⟩ ∈ tbl := tb_in (List.mem_append_right _ (List.mem_of_getElem? (i := 465) (by decide +kernel))) (by decide +kernel)
theorem tw_466 : Cond.code ⟨"NotedHouse$Text", "takeCue", "(LNotedHouse$House;)Z"⟩ prog_4_method_6_code (4 : Nat) (Option.some FieldType.boolean) ∈ tbl := tb_in (List.mem_append_right _ (List.mem_of_getElem? (i := 466) (by decide +kernel))) (by decide +kernel)
theorem tw_467 : Cond.methodLink "NotedHouse$Text" (75 : Nat) ⟨"NotedHouse$Text", "isNumberTo", "(I)Z"⟩ ∈ tbl := tb_in (List.mem_append_right _ (List.mem_of_getElem? (i := 467) (by decide +kernel))) (by decide +kernel)
theorem tw_468 : Cond.privateMethod ⟨"NotedHouse$Text", "isNumberTo", "(I)Z"⟩ ∈ tbl := tb_in (List.mem_append_right _ (List.mem_of_getElem? (i := 468) (by decide +kernel))) (by decide +kernel)
theorem tw_469 : Cond.instanceMethod ⟨"NotedHouse$Text", "isNumberTo", "(I)Z"⟩ ∈ tbl := tb_in (List.mem_append_right _ (List.mem_of_getElem? (i := 469) (by decide +kernel))) (by decide +kernel)
theorem tw_470 : Cond.code ⟨"NotedHouse$Text", "isNumberTo", "(I)Z"⟩ prog_4_method_13_code (2 : Nat) (Option.some FieldType.boolean) ∈ tbl := tb_in (List.mem_append_right _ (List.mem_of_getElem? (i := 470) (by decide +kernel))) (by decide +kernel)
theorem tw_471 : Cond.methodLink "NotedHouse$Text" (83 : Nat) ⟨"NotedHouse$Text", "cueNamed", "()I"⟩ ∈ tbl := tb_in (List.mem_append_right _ (List.mem_of_getElem? (i := 471) (by decide +kernel))) (by decide +kernel)
theorem tw_472 : Cond.privateMethod ⟨"NotedHouse$Text", "cueNamed", "()I"⟩ ∈ tbl := tb_in (List.mem_append_right _ (List.mem_of_getElem? (i := 472) (by decide +kernel))) (by decide +kernel)
theorem tw_473 : Cond.instanceMethod ⟨"NotedHouse$Text", "cueNamed", "()I"⟩ ∈ tbl := tb_in (List.mem_append_right _ (List.mem_of_getElem? (i := 473) (by decide +kernel))) (by decide +kernel)
theorem tw_474 : Cond.code ⟨"NotedHouse$Text", "cueNamed", "()I"⟩ prog_4_method_10_code (2 : Nat) (Option.some FieldType.int) ∈ tbl := tb_in (List.mem_append_right _ (List.mem_of_getElem? (i := 474) (by decide +kernel))) (by decide +kernel)
theorem tw_475 : Cond.methodLink "NotedHouse$Text" (100 : Nat) ⟨"NotedHouse$Text", "nameOfCue", "(I)Ljava/lang/String;"⟩ ∈ tbl := tb_in (List.mem_append_right _ (List.mem_of_getElem? (i := 475) (by decide +kernel))) (by decide +kernel)
theorem tw_476 : Cond.static ⟨"NotedHouse$Text", "nameOfCue", "(I)Ljava/lang/String;"⟩ ∈ tbl := tb_in (List.mem_append_right _ (List.mem_of_getElem? (i := 476) (by decide +kernel))) (by decide +kernel)
theorem tw_477 : Cond.code ⟨"NotedHouse$Text", "nameOfCue", "(I)Ljava/lang/String;"⟩ prog_4_method_12_code (1 : Nat) (Option.some (FieldType.object "java/lang/String")) ∈ tbl := tb_in (List.mem_append_right _ (List.mem_of_getElem? (i := 477) (by decide +kernel))) (by decide +kernel)
theorem tw_484 : Cond.methodLink "NotedHouse$Text" (49 : Nat) ⟨"NotedHouse$Text", "takeTense", "(LNotedHouse$House;)Z"⟩ ∈ tbl := tb_in (List.mem_append_right _ (List.mem_of_getElem? (i := 484) (by decide +kernel))) (by decide +kernel)
theorem tw_485 : Cond.privateMethod ⟨"NotedHouse$Text", "takeTense", "(LNotedHouse$House;)Z"⟩ ∈ tbl := tb_in (List.mem_append_right _ (List.mem_of_getElem? (i := 485) (by decide +kernel))) (by decide +kernel)
theorem tw_486 : Cond.instanceMethod ⟨"NotedHouse$Text", "takeTense", "(LNotedHouse$House;)Z"⟩ ∈ tbl := tb_in (List.mem_append_right _ (List.mem_of_getElem? (i := 486) (by decide +kernel))) (by decide +kernel)
theorem tw_487 : Cond.code ⟨"NotedHouse$Text", "takeTense", "(LNotedHouse$House;)Z"⟩ prog_4_method_7_code (3 : Nat) (Option.some FieldType.boolean) ∈ tbl := tb_in (List.mem_append_right _ (List.mem_of_getElem? (i := 487) (by decide +kernel))) (by decide +kernel)
theorem tw_489 : Cond.methodLink "NotedHouse$Text" (54 : Nat) ⟨"NotedHouse$Text", "takeSwap", "(LNotedHouse$House;)Z"⟩ ∈ tbl := tb_in (List.mem_append_right _ (List.mem_of_getElem? (i := 489) (by decide +kernel))) (by decide +kernel)
theorem tw_490 : Cond.privateMethod ⟨"NotedHouse$Text", "takeSwap", "(LNotedHouse$House;)Z"⟩ ∈ tbl := tb_in (List.mem_append_right _ (List.mem_of_getElem? (i := 490) (by decide +kernel))) (by decide +kernel)
theorem tw_491 : Cond.instanceMethod ⟨"NotedHouse$Text", "takeSwap", "(LNotedHouse$House;)Z"⟩ ∈ tbl := tb_in (List.mem_append_right _ (List.mem_of_getElem? (i := 491) (by decide +kernel))) (by decide +kernel)
theorem tw_492 : Cond.code ⟨"NotedHouse$Text", "takeSwap", "(LNotedHouse$House;)Z"⟩ prog_4_method_8_code (3 : Nat) (Option.some FieldType.boolean) ∈ tbl := tb_in (List.mem_append_right _ (List.mem_of_getElem? (i := 492) (by decide +kernel))) (by decide +kernel)
theorem tw_493 : Cond.methodLinkNest "NotedHouse$Text" (92 : Nat) ⟨"NotedHouse$House", "changeSeats", "(II)V"⟩ "NotedHouse" ∈ tbl := tb_in (List.mem_append_right _ (List.mem_of_getElem? (i := 493) (by decide +kernel))) (by decide +kernel)
theorem tw_494 : Cond.methodLink "NotedHouse$Text" (57 : Nat) ⟨"NotedHouse$Text", "takePerson", "(LNotedHouse$House;)Z"⟩ ∈ tbl := tb_in (List.mem_append_right _ (List.mem_of_getElem? (i := 494) (by decide +kernel))) (by decide +kernel)
theorem tw_495 : Cond.privateMethod ⟨"NotedHouse$Text", "takePerson", "(LNotedHouse$House;)Z"⟩ ∈ tbl := tb_in (List.mem_append_right _ (List.mem_of_getElem? (i := 495) (by decide +kernel))) (by decide +kernel)
theorem tw_496 : Cond.instanceMethod ⟨"NotedHouse$Text", "takePerson", "(LNotedHouse$House;)Z"⟩ ∈ tbl := tb_in (List.mem_append_right _ (List.mem_of_getElem? (i := 496) (by decide +kernel))) (by decide +kernel)
theorem tw_497 : Cond.code ⟨"NotedHouse$Text", "takePerson", "(LNotedHouse$House;)Z"⟩ prog_4_method_5_code (4 : Nat) (Option.some FieldType.boolean) ∈ tbl := tb_in (List.mem_append_right _ (List.mem_of_getElem? (i := 497) (by decide +kernel))) (by decide +kernel)
theorem tw_498 : Cond.methodLink "NotedHouse$Text" (60 : Nat) ⟨"NotedHouse$Text", "kindNamed", "()I"⟩ ∈ tbl := tb_in (List.mem_append_right _ (List.mem_of_getElem? (i := 498) (by decide +kernel))) (by decide +kernel)
theorem tw_499 : Cond.privateMethod ⟨"NotedHouse$Text", "kindNamed", "()I"⟩ ∈ tbl := tb_in (List.mem_append_right _ (List.mem_of_getElem? (i := 499) (by decide +kernel))) (by decide +kernel)
theorem tw_500 : Cond.instanceMethod ⟨"NotedHouse$Text", "kindNamed", "()I"⟩ ∈ tbl := tb_in (List.mem_append_right _ (List.mem_of_getElem? (i := 500) (by decide +kernel))) (by decide +kernel)
theorem tw_501 : Cond.code ⟨"NotedHouse$Text", "kindNamed", "()I"⟩ prog_4_method_9_code (2 : Nat) (Option.some FieldType.int) ∈ tbl := tb_in (List.mem_append_right _ (List.mem_of_getElem? (i := 501) (by decide +kernel))) (by decide +kernel)
theorem tw_502 : Cond.methodLink "NotedHouse$Text" (96 : Nat) ⟨"NotedHouse$Text", "nameOfKind", "(I)Ljava/lang/String;"⟩ ∈ tbl := tb_in (List.mem_append_right _ (List.mem_of_getElem? (i := 502) (by decide +kernel))) (by decide +kernel)
theorem tw_503 : Cond.static ⟨"NotedHouse$Text", "nameOfKind", "(I)Ljava/lang/String;"⟩ ∈ tbl := tb_in (List.mem_append_right _ (List.mem_of_getElem? (i := 503) (by decide +kernel))) (by decide +kernel)
theorem tw_504 : Cond.code ⟨"NotedHouse$Text", "nameOfKind", "(I)Ljava/lang/String;"⟩ prog_4_method_11_code (1 : Nat) (Option.some (FieldType.object "java/lang/String")) ∈ tbl := tb_in (List.mem_append_right _ (List.mem_of_getElem? (i := 504) (by decide +kernel))) (by decide +kernel)
theorem tw_511 : Cond.methodLinkNest "NotedHouse$Text" (69 : Nat) ⟨"NotedHouse$House", "seat", "(II)I"⟩ "NotedHouse" ∈ tbl := tb_in (List.mem_append_right _ (List.mem_of_getElem? (i := 511) (by decide +kernel))) (by decide +kernel)
theorem tw_513 : Cond.methodLink "NotedHouseLaw" (121 : Nat) ⟨"NotedHouse", "sheet", "(III)I"⟩ ∈ tbl := tb_in (List.mem_append_right _ (List.mem_of_getElem? (i := 513) (by decide +kernel))) (by decide +kernel)
theorem tw_514 : Cond.instanceMethod ⟨"NotedHouse", "sheet", "(III)I"⟩ ∈ tbl := tb_in (List.mem_append_right _ (List.mem_of_getElem? (i := 514) (by decide +kernel))) (by decide +kernel)
theorem tw_515 : Cond.selects "NotedHouse" ⟨"NotedHouse", "sheet", "(III)I"⟩ ⟨"NotedHouse", "sheet", "(III)I"⟩ ∈ tbl := tb_in (List.mem_append_right _ (List.mem_of_getElem? (i := 515) (by decide +kernel))) (by decide +kernel)
theorem tw_516 : Cond.code ⟨"NotedHouse", "sheet", "(III)I"⟩ prog_1_method_28_code (4 : Nat) (Option.some FieldType.int) ∈ tbl := tb_in (List.mem_append_right _ (List.mem_of_getElem? (i := 516) (by decide +kernel))) (by decide +kernel)
theorem tw_517 : Cond.methodLink "NotedHouse" (157 : Nat) ⟨"NotedHouse", "isSheet", "(I)Z"⟩ ∈ tbl := tb_in (List.mem_append_right _ (List.mem_of_getElem? (i := 517) (by decide +kernel))) (by decide +kernel)
theorem tw_518 : Cond.static ⟨"NotedHouse", "isSheet", "(I)Z"⟩ ∈ tbl := tb_in (List.mem_append_right _ (List.mem_of_getElem? (i := 518) (by decide +kernel))) (by decide +kernel)
theorem tw_519 : Cond.code ⟨"NotedHouse", "isSheet", "(I)Z"⟩ prog_1_method_42_code (1 : Nat) (Option.some FieldType.boolean) ∈ tbl := tb_in (List.mem_append_right _ (List.mem_of_getElem? (i := 519) (by decide +kernel))) (by decide +kernel)
theorem tw_520 : Cond.constant "NotedHouse" (160 : Nat) (-1000000007 : Int32) ∈ tbl := tb_in (List.mem_append_right _ (List.mem_of_getElem? (i := 520) (by decide +kernel))) (by decide +kernel)
theorem tw_521 : Cond.methodLinkNest "NotedHouse" (161 : Nat) ⟨"NotedHouse$Sheet", "layOut", "(II)V"⟩ "NotedHouse" ∈ tbl := tb_in (List.mem_append_right _ (List.mem_of_getElem? (i := 521) (by decide +kernel))) (by decide +kernel)
theorem tw_522 : Cond.privateMethod ⟨"NotedHouse$Sheet", "layOut", "(II)V"⟩ ∈ tbl := tb_in (List.mem_append_right _ (List.mem_of_getElem? (i := 522) (by decide +kernel))) (by decide +kernel)
theorem tw_523 : Cond.instanceMethod ⟨"NotedHouse$Sheet", "layOut", "(II)V"⟩ ∈ tbl := tb_in (List.mem_append_right _ (List.mem_of_getElem? (i := 523) (by decide +kernel))) (by decide +kernel)
theorem tw_524 : Cond.code ⟨"NotedHouse$Sheet", "layOut", "(II)V"⟩ prog_3_method_3_code (4 : Nat) none ∈ tbl := tb_in (List.mem_append_right _ (List.mem_of_getElem? (i := 524) (by decide +kernel))) (by decide +kernel)
theorem tw_525 : Cond.methodLink "NotedHouseLaw" (127 : Nat) ⟨"NotedHouse", "write", "(IIJ)J"⟩ ∈ tbl := tb_in (List.mem_append_right _ (List.mem_of_getElem? (i := 525) (by decide +kernel))) (by decide +kernel)
theorem tw_526 : Cond.instanceMethod ⟨"NotedHouse", "write", "(IIJ)J"⟩ ∈ tbl := tb_in (List.mem_append_right _ (List.mem_of_getElem? (i := 526) (by decide +kernel))) (by decide +kernel)
theorem tw_527 : Cond.selects "NotedHouse" ⟨"NotedHouse", "write", "(IIJ)J"⟩ ⟨"NotedHouse", "write", "(IIJ)J"⟩ ∈ tbl := tb_in (List.mem_append_right _ (List.mem_of_getElem? (i := 527) (by decide +kernel))) (by decide +kernel)
theorem tw_528 : Cond.code ⟨"NotedHouse", "write", "(IIJ)J"⟩ prog_1_method_29_code (8 : Nat) (Option.some FieldType.long) ∈ tbl := tb_in (List.mem_append_right _ (List.mem_of_getElem? (i := 528) (by decide +kernel))) (by decide +kernel)
theorem tw_529 : Cond.methodLinkNest "NotedHouse" (167 : Nat) ⟨"NotedHouse$Sheet", "isMissing", "()Z"⟩ "NotedHouse" ∈ tbl := tb_in (List.mem_append_right _ (List.mem_of_getElem? (i := 529) (by decide +kernel))) (by decide +kernel)
theorem tw_530 : Cond.privateMethod ⟨"NotedHouse$Sheet", "isMissing", "()Z"⟩ ∈ tbl := tb_in (List.mem_append_right _ (List.mem_of_getElem? (i := 530) (by decide +kernel))) (by decide +kernel)
theorem tw_531 : Cond.instanceMethod ⟨"NotedHouse$Sheet", "isMissing", "()Z"⟩ ∈ tbl := tb_in (List.mem_append_right _ (List.mem_of_getElem? (i := 531) (by decide +kernel))) (by decide +kernel)
theorem tw_532 : Cond.code ⟨"NotedHouse$Sheet", "isMissing", "()Z"⟩ prog_3_method_2_code (1 : Nat) (Option.some FieldType.boolean) ∈ tbl := tb_in (List.mem_append_right _ (List.mem_of_getElem? (i := 532) (by decide +kernel))) (by decide +kernel)
theorem tw_533 : Cond.constant "NotedHouse" (171 : Nat) (-1000000006 : Int32) ∈ tbl := tb_in (List.mem_append_right _ (List.mem_of_getElem? (i := 533) (by decide +kernel))) (by decide +kernel)
theorem tw_534 : Cond.methodLinkNest "NotedHouse" (176 : Nat) ⟨"NotedHouse$Sheet", "put", "(IJ)V"⟩ "NotedHouse" ∈ tbl := tb_in (List.mem_append_right _ (List.mem_of_getElem? (i := 534) (by decide +kernel))) (by decide +kernel)
theorem tw_535 : Cond.privateMethod ⟨"NotedHouse$Sheet", "put", "(IJ)V"⟩ ∈ tbl := tb_in (List.mem_append_right _ (List.mem_of_getElem? (i := 535) (by decide +kernel))) (by decide +kernel)
theorem tw_536 : Cond.instanceMethod ⟨"NotedHouse$Sheet", "put", "(IJ)V"⟩ ∈ tbl := tb_in (List.mem_append_right _ (List.mem_of_getElem? (i := 536) (by decide +kernel))) (by decide +kernel)
theorem tw_537 : Cond.code ⟨"NotedHouse$Sheet", "put", "(IJ)V"⟩ prog_3_method_4_code (4 : Nat) none ∈ tbl := tb_in (List.mem_append_right _ (List.mem_of_getElem? (i := 537) (by decide +kernel))) (by decide +kernel)
theorem tw_538 : Cond.methodLink "NotedHouseLaw" (132 : Nat) ⟨"NotedHouse", "copy", "(IIIII)I"⟩ ∈ tbl := tb_in (List.mem_append_right _ (List.mem_of_getElem? (i := 538) (by decide +kernel))) (by decide +kernel)
theorem tw_539 : Cond.instanceMethod ⟨"NotedHouse", "copy", "(IIIII)I"⟩ ∈ tbl := tb_in (List.mem_append_right _ (List.mem_of_getElem? (i := 539) (by decide +kernel))) (by decide +kernel)
theorem tw_540 : Cond.selects "NotedHouse" ⟨"NotedHouse", "copy", "(IIIII)I"⟩ ⟨"NotedHouse", "copy", "(IIIII)I"⟩ ∈ tbl := tb_in (List.mem_append_right _ (List.mem_of_getElem? (i := 540) (by decide +kernel))) (by decide +kernel)
theorem tw_541 : Cond.code ⟨"NotedHouse", "copy", "(IIIII)I"⟩ prog_1_method_30_code (8 : Nat) (Option.some FieldType.int) ∈ tbl := tb_in (List.mem_append_right _ (List.mem_of_getElem? (i := 541) (by decide +kernel))) (by decide +kernel)
theorem tw_542 : Cond.methodLinkNest "NotedHouse" (183 : Nat) ⟨"NotedHouse$Sheet", "has", "(II)Z"⟩ "NotedHouse" ∈ tbl := tb_in (List.mem_append_right _ (List.mem_of_getElem? (i := 542) (by decide +kernel))) (by decide +kernel)
theorem tw_543 : Cond.privateMethod ⟨"NotedHouse$Sheet", "has", "(II)Z"⟩ ∈ tbl := tb_in (List.mem_append_right _ (List.mem_of_getElem? (i := 543) (by decide +kernel))) (by decide +kernel)
theorem tw_544 : Cond.instanceMethod ⟨"NotedHouse$Sheet", "has", "(II)Z"⟩ ∈ tbl := tb_in (List.mem_append_right _ (List.mem_of_getElem? (i := 544) (by decide +kernel))) (by decide +kernel)
theorem tw_545 : Cond.code ⟨"NotedHouse$Sheet", "has", "(II)Z"⟩ prog_3_method_5_code (3 : Nat) (Option.some FieldType.boolean) ∈ tbl := tb_in (List.mem_append_right _ (List.mem_of_getElem? (i := 545) (by decide +kernel))) (by decide +kernel)
theorem tw_546 : Cond.methodLink "NotedHouse" (186 : Nat) ⟨"java/lang/System", "arraycopy", "(Ljava/lang/Object;ILjava/lang/Object;II)V"⟩ ∈ tbl := tb_in (List.mem_append_right _ (List.mem_of_getElem? (i := 546) (by decide +kernel))) (by decide +kernel)
theorem tw_547 : Cond.methodLink "NotedHouseLaw" (137 : Nat) ⟨"NotedHouse", "lays", "(I)I"⟩ ∈ tbl := tb_in (List.mem_append_right _ (List.mem_of_getElem? (i := 547) (by decide +kernel))) (by decide +kernel)
theorem tw_548 : Cond.instanceMethod ⟨"NotedHouse", "lays", "(I)I"⟩ ∈ tbl := tb_in (List.mem_append_right _ (List.mem_of_getElem? (i := 548) (by decide +kernel))) (by decide +kernel)
theorem tw_549 : Cond.selects "NotedHouse" ⟨"NotedHouse", "lays", "(I)I"⟩ ⟨"NotedHouse", "lays", "(I)I"⟩ ∈ tbl := tb_in (List.mem_append_right _ (List.mem_of_getElem? (i := 549) (by decide +kernel))) (by decide +kernel)
theorem tw_550 : Cond.code ⟨"NotedHouse", "lays", "(I)I"⟩ prog_1_method_31_code (5 : Nat) (Option.some FieldType.int) ∈ tbl := tb_in (List.mem_append_right _ (List.mem_of_getElem? (i := 550) (by decide +kernel))) (by decide +kernel)
theorem tw_551 : Cond.constantLong "NotedHouse" (192 : Nat) (99 : Int64) ∈ tbl := tb_in (List.mem_append_right _ (List.mem_of_getElem? (i := 551) (by decide +kernel))) (by decide +kernel)
theorem tw_552 : Cond.methodLink "NotedHouseLaw" (141 : Nat) ⟨"NotedHouse", "book", "(II)I"⟩ ∈ tbl := tb_in (List.mem_append_right _ (List.mem_of_getElem? (i := 552) (by decide +kernel))) (by decide +kernel)
theorem tw_553 : Cond.instanceMethod ⟨"NotedHouse", "book", "(II)I"⟩ ∈ tbl := tb_in (List.mem_append_right _ (List.mem_of_getElem? (i := 553) (by decide +kernel))) (by decide +kernel)
theorem tw_554 : Cond.selects "NotedHouse" ⟨"NotedHouse", "book", "(II)I"⟩ ⟨"NotedHouse", "book", "(II)I"⟩ ∈ tbl := tb_in (List.mem_append_right _ (List.mem_of_getElem? (i := 554) (by decide +kernel))) (by decide +kernel)
theorem tw_555 : Cond.code ⟨"NotedHouse", "book", "(II)I"⟩ prog_1_method_32_code (6 : Nat) (Option.some FieldType.int) ∈ tbl := tb_in (List.mem_append_right _ (List.mem_of_getElem? (i := 555) (by decide +kernel))) (by decide +kernel)
theorem tw_556 : Cond.methodLink "NotedHouse" (194 : Nat) ⟨"NotedHouse", "refusalOf", "(II)I"⟩ ∈ tbl := tb_in (List.mem_append_right _ (List.mem_of_getElem? (i := 556) (by decide +kernel))) (by decide +kernel)
theorem tw_557 : Cond.privateMethod ⟨"NotedHouse", "refusalOf", "(II)I"⟩ ∈ tbl := tb_in (List.mem_append_right _ (List.mem_of_getElem? (i := 557) (by decide +kernel))) (by decide +kernel)
theorem tw_558 : Cond.instanceMethod ⟨"NotedHouse", "refusalOf", "(II)I"⟩ ∈ tbl := tb_in (List.mem_append_right _ (List.mem_of_getElem? (i := 558) (by decide +kernel))) (by decide +kernel)
theorem tw_559 : Cond.code ⟨"NotedHouse", "refusalOf", "(II)I"⟩ prog_1_method_43_code (3 : Nat) (Option.some FieldType.int) ∈ tbl := tb_in (List.mem_append_right _ (List.mem_of_getElem? (i := 559) (by decide +kernel))) (by decide +kernel)
theorem tw_560 : Cond.methodLink "NotedHouseLaw" (145 : Nat) ⟨"NotedHouse", "read", "(II)I"⟩ ∈ tbl := tb_in (List.mem_append_right _ (List.mem_of_getElem? (i := 560) (by decide +kernel))) (by decide +kernel)
theorem tw_561 : Cond.instanceMethod ⟨"NotedHouse", "read", "(II)I"⟩ ∈ tbl := tb_in (List.mem_append_right _ (List.mem_of_getElem? (i := 561) (by decide +kernel))) (by decide +kernel)
theorem tw_562 : Cond.selects "NotedHouse" ⟨"NotedHouse", "read", "(II)I"⟩ ⟨"NotedHouse", "read", "(II)I"⟩ ∈ tbl := tb_in (List.mem_append_right _ (List.mem_of_getElem? (i := 562) (by decide +kernel))) (by decide +kernel)
theorem tw_563 : Cond.code ⟨"NotedHouse", "read", "(II)I"⟩ prog_1_method_33_code (7 : Nat) (Option.some FieldType.int) ∈ tbl := tb_in (List.mem_append_right _ (List.mem_of_getElem? (i := 563) (by decide +kernel))) (by decide +kernel)
theorem tw_564 : Cond.methodLink "NotedHouse" (197 : Nat) ⟨"NotedHouse", "trialDoesAs", "(LNotedHouse$Sheet;I)Z"⟩ ∈ tbl := tb_in (List.mem_append_right _ (List.mem_of_getElem? (i := 564) (by decide +kernel))) (by decide +kernel)
theorem tw_565 : Cond.privateMethod ⟨"NotedHouse", "trialDoesAs", "(LNotedHouse$Sheet;I)Z"⟩ ∈ tbl := tb_in (List.mem_append_right _ (List.mem_of_getElem? (i := 565) (by decide +kernel))) (by decide +kernel)
theorem tw_566 : Cond.instanceMethod ⟨"NotedHouse", "trialDoesAs", "(LNotedHouse$Sheet;I)Z"⟩ ∈ tbl := tb_in (List.mem_append_right _ (List.mem_of_getElem? (i := 566) (by decide +kernel))) (by decide +kernel)
theorem tw_567 : Cond.code ⟨"NotedHouse", "trialDoesAs", "(LNotedHouse$Sheet;I)Z"⟩ prog_1_method_44_code (4 : Nat) (Option.some FieldType.boolean) ∈ tbl := tb_in (List.mem_append_right _ (List.mem_of_getElem? (i := 567) (by decide +kernel))) (by decide +kernel)
theorem tw_568 : Cond.methodLink "NotedHouseLaw" (149 : Nat) ⟨"NotedHouse", "image", "()I"⟩ ∈ tbl := tb_in (List.mem_append_right _ (List.mem_of_getElem? (i := 568) (by decide +kernel))) (by decide +kernel)
theorem tw_569 : Cond.instanceMethod ⟨"NotedHouse", "image", "()I"⟩ ∈ tbl := tb_in (List.mem_append_right _ (List.mem_of_getElem? (i := 569) (by decide +kernel))) (by decide +kernel)
theorem tw_570 : Cond.selects "NotedHouse" ⟨"NotedHouse", "image", "()I"⟩ ⟨"NotedHouse", "image", "()I"⟩ ∈ tbl := tb_in (List.mem_append_right _ (List.mem_of_getElem? (i := 570) (by decide +kernel))) (by decide +kernel)
theorem tw_571 : Cond.code ⟨"NotedHouse", "image", "()I"⟩ prog_1_method_34_code (1 : Nat) (Option.some FieldType.int) ∈ tbl := tb_in (List.mem_append_right _ (List.mem_of_getElem? (i := 571) (by decide +kernel))) (by decide +kernel)
theorem tw_572 : Cond.methodLink "NotedHouseLaw" (153 : Nat) ⟨"NotedHouse", "undo", "()I"⟩ ∈ tbl := tb_in (List.mem_append_right _ (List.mem_of_getElem? (i := 572) (by decide +kernel))) (by decide +kernel)
theorem tw_573 : Cond.instanceMethod ⟨"NotedHouse", "undo", "()I"⟩ ∈ tbl := tb_in (List.mem_append_right _ (List.mem_of_getElem? (i := 573) (by decide +kernel))) (by decide +kernel)
theorem tw_574 : Cond.selects "NotedHouse" ⟨"NotedHouse", "undo", "()I"⟩ ⟨"NotedHouse", "undo", "()I"⟩ ∈ tbl := tb_in (List.mem_append_right _ (List.mem_of_getElem? (i := 574) (by decide +kernel))) (by decide +kernel)
theorem tw_575 : Cond.code ⟨"NotedHouse", "undo", "()I"⟩ prog_1_method_35_code (1 : Nat) (Option.some FieldType.int) ∈ tbl := tb_in (List.mem_append_right _ (List.mem_of_getElem? (i := 575) (by decide +kernel))) (by decide +kernel)
end
section
theorem tw_576 : Cond.methodLink "NotedHouseLaw" (157 : Nat) ⟨"NotedHouse", "tear", "()I"⟩ ∈ tbl := tb_in (List.mem_append_right _ (List.mem_of_getElem? (i := 576) (by decide +kernel))) (by decide +kernel)
theorem tw_577 : Cond.instanceMethod ⟨"NotedHouse", "tear", "()I"⟩ ∈ tbl := tb_in (List.mem_append_right _ (List.mem_of_getElem? (i := 577) (by decide +kernel))) (by decide +kernel)
theorem tw_578 : Cond.selects "NotedHouse" ⟨"NotedHouse", "tear", "()I"⟩ ⟨"NotedHouse", "tear", "()I"⟩ ∈ tbl := tb_in (List.mem_append_right _ (List.mem_of_getElem? (i := 578) (by decide +kernel))) (by decide +kernel)
theorem tw_579 : Cond.code ⟨"NotedHouse", "tear", "()I"⟩ prog_1_method_36_code (2 : Nat) (Option.some FieldType.int) ∈ tbl := tb_in (List.mem_append_right _ (List.mem_of_getElem? (i := 579) (by decide +kernel))) (by decide +kernel)
theorem tw_580 : Cond.methodLink "NotedHouseLaw" (161 : Nat) ⟨"NotedHouse", "count", "(I)I"⟩ ∈ tbl := tb_in (List.mem_append_right _ (List.mem_of_getElem? (i := 580) (by decide +kernel))) (by decide +kernel)
theorem tw_581 : Cond.instanceMethod ⟨"NotedHouse", "count", "(I)I"⟩ ∈ tbl := tb_in (List.mem_append_right _ (List.mem_of_getElem? (i := 581) (by decide +kernel))) (by decide +kernel)
theorem tw_582 : Cond.selects "NotedHouse" ⟨"NotedHouse", "count", "(I)I"⟩ ⟨"NotedHouse", "count", "(I)I"⟩ ∈ tbl := tb_in (List.mem_append_right _ (List.mem_of_getElem? (i := 582) (by decide +kernel))) (by decide +kernel)
theorem tw_583 : Cond.code ⟨"NotedHouse", "count", "(I)I"⟩ prog_1_method_37_code (2 : Nat) (Option.some FieldType.int) ∈ tbl := tb_in (List.mem_append_right _ (List.mem_of_getElem? (i := 583) (by decide +kernel))) (by decide +kernel)
theorem tw_584 : Cond.methodLinkNest "NotedHouse" (201 : Nat) ⟨"NotedHouse$House", "allTense", "()I"⟩ "NotedHouse" ∈ tbl := tb_in (List.mem_append_right _ (List.mem_of_getElem? (i := 584) (by decide +kernel))) (by decide +kernel)
theorem tw_585 : Cond.privateMethod ⟨"NotedHouse$House", "allTense", "()I"⟩ ∈ tbl := tb_in (List.mem_append_right _ (List.mem_of_getElem? (i := 585) (by decide +kernel))) (by decide +kernel)
theorem tw_586 : Cond.instanceMethod ⟨"NotedHouse$House", "allTense", "()I"⟩ ∈ tbl := tb_in (List.mem_append_right _ (List.mem_of_getElem? (i := 586) (by decide +kernel))) (by decide +kernel)
theorem tw_587 : Cond.code ⟨"NotedHouse$House", "allTense", "()I"⟩ prog_2_method_9_code (1 : Nat) (Option.some FieldType.int) ∈ tbl := tb_in (List.mem_append_right _ (List.mem_of_getElem? (i := 587) (by decide +kernel))) (by decide +kernel)
theorem tw_588 : Cond.methodLink "NotedHouseLaw" (165 : Nat) ⟨"NotedHouse", "status", "(I)I"⟩ ∈ tbl := tb_in (List.mem_append_right _ (List.mem_of_getElem? (i := 588) (by decide +kernel))) (by decide +kernel)
theorem tw_589 : Cond.instanceMethod ⟨"NotedHouse", "status", "(I)I"⟩ ∈ tbl := tb_in (List.mem_append_right _ (List.mem_of_getElem? (i := 589) (by decide +kernel))) (by decide +kernel)
theorem tw_590 : Cond.selects "NotedHouse" ⟨"NotedHouse", "status", "(I)I"⟩ ⟨"NotedHouse", "status", "(I)I"⟩ ∈ tbl := tb_in (List.mem_append_right _ (List.mem_of_getElem? (i := 590) (by decide +kernel))) (by decide +kernel)
theorem tw_591 : Cond.code ⟨"NotedHouse", "status", "(I)I"⟩ prog_1_method_38_code (4 : Nat) (Option.some FieldType.int) ∈ tbl := tb_in (List.mem_append_right _ (List.mem_of_getElem? (i := 591) (by decide +kernel))) (by decide +kernel)
theorem tw_592 : Cond.classLink "NotedHouseLaw" (10 : Nat) "NotedHouseModel" ∈ tbl := tb_in (List.mem_append_right _ (List.mem_of_getElem? (i := 592) (by decide +kernel))) (by decide +kernel)
theorem tw_593 : Cond.instantiable "NotedHouseModel" (18 : Nat) ∈ tbl := tb_in (List.mem_append_right _ (List.mem_of_getElem? (i := 593) (by decide +kernel))) (by decide +kernel)
theorem tw_594 : Cond.methodLink "NotedHouseLaw" (12 : Nat) ⟨"NotedHouseModel", "<init>", "()V"⟩ ∈ tbl := tb_in (List.mem_append_right _ (List.mem_of_getElem? (i := 594) (by decide +kernel))) (by decide +kernel)
theorem tw_595 : Cond.instanceMethod ⟨"NotedHouseModel", "<init>", "()V"⟩ ∈ tbl := tb_in (List.mem_append_right _ (List.mem_of_getElem? (i := 595) (by decide +kernel))) (by decide +kernel)
theorem tw_596 : Cond.code ⟨"NotedHouseModel", "<init>", "()V"⟩ prog_6_method_1_code (2 : Nat) none ∈ tbl := tb_in (List.mem_append_right _ (List.mem_of_getElem? (i := 596) (by decide +kernel))) (by decide +kernel)
theorem tw_597 : Cond.methodLink "NotedHouseModel" (1 : Nat) ⟨"java/lang/Object", "<init>", "()V"⟩ ∈ tbl := tb_in (List.mem_append_right _ (List.mem_of_getElem? (i := 597) (by decide +kernel))) (by decide +kernel)
theorem tw_598 : Cond.fieldLink "NotedHouseModel" (7 : Nat) "NotedHouseModel" "d" "[I" ∈ tbl := tb_in (List.mem_append_right _ (List.mem_of_getElem? (i := 598) (by decide +kernel))) (by decide +kernel)
theorem tw_599 : Cond.fieldLink "NotedHouseModel" (13 : Nat) "NotedHouseModel" "e" "[I" ∈ tbl := tb_in (List.mem_append_right _ (List.mem_of_getElem? (i := 599) (by decide +kernel))) (by decide +kernel)
theorem tw_600 : Cond.fieldLink "NotedHouseModel" (16 : Nat) "NotedHouseModel" "aside" "[I" ∈ tbl := tb_in (List.mem_append_right _ (List.mem_of_getElem? (i := 600) (by decide +kernel))) (by decide +kernel)
theorem tw_601 : Cond.fieldLink "NotedHouseModel" (19 : Nat) "NotedHouseModel" "kept" "[I" ∈ tbl := tb_in (List.mem_append_right _ (List.mem_of_getElem? (i := 601) (by decide +kernel))) (by decide +kernel)
theorem tw_602 : Cond.fieldLink "NotedHouseModel" (275 : Nat) "NotedHouseModel" "isKept" "Z" ∈ tbl := tb_in (List.mem_append_right _ (List.mem_of_getElem? (i := 602) (by decide +kernel))) (by decide +kernel)
theorem tw_603 : Cond.fieldLink "NotedHouseModel" (22 : Nat) "NotedHouseModel" "found" "[I" ∈ tbl := tb_in (List.mem_append_right _ (List.mem_of_getElem? (i := 603) (by decide +kernel))) (by decide +kernel)
theorem tw_604 : Cond.fieldLink "NotedHouseModel" (25 : Nat) "NotedHouseModel" "tape" "[B" ∈ tbl := tb_in (List.mem_append_right _ (List.mem_of_getElem? (i := 604) (by decide +kernel))) (by decide +kernel)
theorem tw_605 : Cond.fieldLink "NotedHouseModel" (156 : Nat) "NotedHouseModel" "taped" "I" ∈ tbl := tb_in (List.mem_append_right _ (List.mem_of_getElem? (i := 605) (by decide +kernel))) (by decide +kernel)
theorem tw_606 : Cond.fieldLink "NotedHouseModel" (29 : Nat) "NotedHouseModel" "doing" "[I" ∈ tbl := tb_in (List.mem_append_right _ (List.mem_of_getElem? (i := 606) (by decide +kernel))) (by decide +kernel)
theorem tw_607 : Cond.fieldLink "NotedHouseModel" (160 : Nat) "NotedHouseModel" "at" "I" ∈ tbl := tb_in (List.mem_append_right _ (List.mem_of_getElem? (i := 607) (by decide +kernel))) (by decide +kernel)
theorem tw_608 : Cond.fieldLink "NotedHouseModel" (173 : Nat) "NotedHouseModel" "sort" "I" ∈ tbl := tb_in (List.mem_append_right _ (List.mem_of_getElem? (i := 608) (by decide +kernel))) (by decide +kernel)
theorem tw_609 : Cond.fieldLink "NotedHouseModel" (166 : Nat) "NotedHouseModel" "from" "I" ∈ tbl := tb_in (List.mem_append_right _ (List.mem_of_getElem? (i := 609) (by decide +kernel))) (by decide +kernel)
theorem tw_610 : Cond.fieldLink "NotedHouseModel" (169 : Nat) "NotedHouseModel" "value" "J" ∈ tbl := tb_in (List.mem_append_right _ (List.mem_of_getElem? (i := 610) (by decide +kernel))) (by decide +kernel)
theorem tw_611 : Cond.fieldLink "NotedHouseModel" (192 : Nat) "NotedHouseModel" "fault" "I" ∈ tbl := tb_in (List.mem_append_right _ (List.mem_of_getElem? (i := 611) (by decide +kernel))) (by decide +kernel)
theorem tw_612 : Cond.fieldLink "NotedHouseModel" (32 : Nat) "NotedHouseModel" "bitsOf" "[I" ∈ tbl := tb_in (List.mem_append_right _ (List.mem_of_getElem? (i := 612) (by decide +kernel))) (by decide +kernel)
theorem tw_613 : Cond.fieldLink "NotedHouseModel" (35 : Nat) "NotedHouseModel" "sizeOf" "[I" ∈ tbl := tb_in (List.mem_append_right _ (List.mem_of_getElem? (i := 613) (by decide +kernel))) (by decide +kernel)
theorem tw_614 : Cond.fieldLink "NotedHouseModel" (38 : Nat) "NotedHouseModel" "number" "[J" ∈ tbl := tb_in (List.mem_append_right _ (List.mem_of_getElem? (i := 614) (by decide +kernel))) (by decide +kernel)
theorem tw_615 : Cond.fieldLink "NotedHouseModel" (42 : Nat) "NotedHouseModel" "passing" "[J" ∈ tbl := tb_in (List.mem_append_right _ (List.mem_of_getElem? (i := 615) (by decide +kernel))) (by decide +kernel)
theorem tw_616 : Cond.laysFinal "NotedHouseModel" "NotedHouseModel" "d" "[I" ∈ tbl := tb_in (List.mem_append_right _ (List.mem_of_getElem? (i := 616) (by decide +kernel))) (by decide +kernel)
theorem tw_617 : Cond.soleField "NotedHouseModel" "d" ∈ tbl := tb_in (List.mem_append_right _ (List.mem_of_getElem? (i := 617) (by decide +kernel))) (by decide +kernel)
theorem tw_618 : Cond.laysFinal "NotedHouseModel" "NotedHouseModel" "e" "[I" ∈ tbl := tb_in (List.mem_append_right _ (List.mem_of_getElem? (i := 618) (by decide +kernel))) (by decide +kernel)
theorem tw_619 : Cond.soleField "NotedHouseModel" "e" ∈ tbl := tb_in (List.mem_append_right _ (List.mem_of_getElem? (i := 619) (by decide +kernel))) (by decide +kernel)
theorem tw_620 : Cond.laysFinal "NotedHouseModel" "NotedHouseModel" "aside" "[I" ∈ tbl := tb_in (List.mem_append_right _ (List.mem_of_getElem? (i := 620) (by decide +kernel))) (by decide +kernel)
theorem tw_621 : Cond.soleField "NotedHouseModel" "aside" ∈ tbl := tb_in (List.mem_append_right _ (List.mem_of_getElem? (i := 621) (by decide +kernel))) (by decide +kernel)
theorem tw_622 : Cond.laysFinal "NotedHouseModel" "NotedHouseModel" "kept" "[I" ∈ tbl := tb_in (List.mem_append_right _ (List.mem_of_getElem? (i := 622) (by decide +kernel))) (by decide +kernel)
theorem tw_623 : Cond.soleField "NotedHouseModel" "kept" ∈ tbl := tb_in (List.mem_append_right _ (List.mem_of_getElem? (i := 623) (by decide +kernel))) (by decide +kernel)
theorem tw_624 : Cond.lays "NotedHouseModel" "NotedHouseModel" "isKept" "Z" ∈ tbl := tb_in (List.mem_append_right _ (List.mem_of_getElem? (i := 624) (by decide +kernel))) (by decide +kernel)
theorem tw_625 : Cond.soleField "NotedHouseModel" "isKept" ∈ tbl := tb_in (List.mem_append_right _ (List.mem_of_getElem? (i := 625) (by decide +kernel))) (by decide +kernel)
theorem tw_626 : Cond.laysFinal "NotedHouseModel" "NotedHouseModel" "found" "[I" ∈ tbl := tb_in (List.mem_append_right _ (List.mem_of_getElem? (i := 626) (by decide +kernel))) (by decide +kernel)
theorem tw_627 : Cond.soleField "NotedHouseModel" "found" ∈ tbl := tb_in (List.mem_append_right _ (List.mem_of_getElem? (i := 627) (by decide +kernel))) (by decide +kernel)
theorem tw_628 : Cond.laysFinal "NotedHouseModel" "NotedHouseModel" "tape" "[B" ∈ tbl := tb_in (List.mem_append_right _ (List.mem_of_getElem? (i := 628) (by decide +kernel))) (by decide +kernel)
theorem tw_629 : Cond.soleField "NotedHouseModel" "tape" ∈ tbl := tb_in (List.mem_append_right _ (List.mem_of_getElem? (i := 629) (by decide +kernel))) (by decide +kernel)
theorem tw_630 : Cond.lays "NotedHouseModel" "NotedHouseModel" "taped" "I" ∈ tbl := tb_in (List.mem_append_right _ (List.mem_of_getElem? (i := 630) (by decide +kernel))) (by decide +kernel)
theorem tw_631 : Cond.soleField "NotedHouseModel" "taped" ∈ tbl := tb_in (List.mem_append_right _ (List.mem_of_getElem? (i := 631) (by decide +kernel))) (by decide +kernel)
theorem tw_632 : Cond.laysFinal "NotedHouseModel" "NotedHouseModel" "doing" "[I" ∈ tbl := tb_in (List.mem_append_right _ (List.mem_of_getElem? (i := 632) (by decide +kernel))) (by decide +kernel)
theorem tw_633 : Cond.soleField "NotedHouseModel" "doing" ∈ tbl := tb_in (List.mem_append_right _ (List.mem_of_getElem? (i := 633) (by decide +kernel))) (by decide +kernel)
theorem tw_634 : Cond.lays "NotedHouseModel" "NotedHouseModel" "at" "I" ∈ tbl := tb_in (List.mem_append_right _ (List.mem_of_getElem? (i := 634) (by decide +kernel))) (by decide +kernel)
theorem tw_635 : Cond.soleField "NotedHouseModel" "at" ∈ tbl := tb_in (List.mem_append_right _ (List.mem_of_getElem? (i := 635) (by decide +kernel))) (by decide +kernel)
theorem tw_636 : Cond.lays "NotedHouseModel" "NotedHouseModel" "sort" "I" ∈ tbl := tb_in (List.mem_append_right _ (List.mem_of_getElem? (i := 636) (by decide +kernel))) (by decide +kernel)
theorem tw_637 : Cond.soleField "NotedHouseModel" "sort" ∈ tbl := tb_in (List.mem_append_right _ (List.mem_of_getElem? (i := 637) (by decide +kernel))) (by decide +kernel)
theorem tw_638 : Cond.lays "NotedHouseModel" "NotedHouseModel" "from" "I" ∈ tbl := tb_in (List.mem_append_right _ (List.mem_of_getElem? (i := 638) (by decide +kernel))) (by decide +kernel)
theorem tw_639 : Cond.soleField "NotedHouseModel" "from" ∈ tbl := tb_in (List.mem_append_right _ (List.mem_of_getElem? (i := 639) (by decide +kernel))) (by decide +kernel)
theorem tw_640 : Cond.lays "NotedHouseModel" "NotedHouseModel" "value" "J" ∈ tbl := tb_in (List.mem_append_right _ (List.mem_of_getElem? (i := 640) (by decide +kernel))) (by decide +kernel)
theorem tw_641 : Cond.soleField "NotedHouseModel" "value" ∈ tbl := tb_in (List.mem_append_right _ (List.mem_of_getElem? (i := 641) (by decide +kernel))) (by decide +kernel)
theorem tw_642 : Cond.lays "NotedHouseModel" "NotedHouseModel" "fault" "I" ∈ tbl := tb_in (List.mem_append_right _ (List.mem_of_getElem? (i := 642) (by decide +kernel))) (by decide +kernel)
theorem tw_643 : Cond.soleField "NotedHouseModel" "fault" ∈ tbl := tb_in (List.mem_append_right _ (List.mem_of_getElem? (i := 643) (by decide +kernel))) (by decide +kernel)
theorem tw_644 : Cond.laysFinal "NotedHouseModel" "NotedHouseModel" "bitsOf" "[I" ∈ tbl := tb_in (List.mem_append_right _ (List.mem_of_getElem? (i := 644) (by decide +kernel))) (by decide +kernel)
theorem tw_645 : Cond.soleField "NotedHouseModel" "bitsOf" ∈ tbl := tb_in (List.mem_append_right _ (List.mem_of_getElem? (i := 645) (by decide +kernel))) (by decide +kernel)
theorem tw_646 : Cond.laysFinal "NotedHouseModel" "NotedHouseModel" "sizeOf" "[I" ∈ tbl := tb_in (List.mem_append_right _ (List.mem_of_getElem? (i := 646) (by decide +kernel))) (by decide +kernel)
theorem tw_647 : Cond.soleField "NotedHouseModel" "sizeOf" ∈ tbl := tb_in (List.mem_append_right _ (List.mem_of_getElem? (i := 647) (by decide +kernel))) (by decide +kernel)
theorem tw_648 : Cond.laysFinal "NotedHouseModel" "NotedHouseModel" "number" "[J" ∈ tbl := tb_in (List.mem_append_right _ (List.mem_of_getElem? (i := 648) (by decide +kernel))) (by decide +kernel)
theorem tw_649 : Cond.soleField "NotedHouseModel" "number" ∈ tbl := tb_in (List.mem_append_right _ (List.mem_of_getElem? (i := 649) (by decide +kernel))) (by decide +kernel)
theorem tw_650 : Cond.laysFinal "NotedHouseModel" "NotedHouseModel" "passing" "[J" ∈ tbl := tb_in (List.mem_append_right _ (List.mem_of_getElem? (i := 650) (by decide +kernel))) (by decide +kernel)
theorem tw_651 : Cond.soleField "NotedHouseModel" "passing" ∈ tbl := tb_in (List.mem_append_right _ (List.mem_of_getElem? (i := 651) (by decide +kernel))) (by decide +kernel)
theorem tw_652 : Cond.superclass "NotedHouseModel" "java/lang/Object" ∈ tbl := tb_in (List.mem_append_right _ (List.mem_of_getElem? (i := 652) (by decide +kernel))) (by decide +kernel)
theorem tw_653 : Cond.methodLink "NotedHouseLaw" (17 : Nat) ⟨"NotedHouseModel", "play", "(III)I"⟩ ∈ tbl := tb_in (List.mem_append_right _ (List.mem_of_getElem? (i := 653) (by decide +kernel))) (by decide +kernel)
theorem tw_654 : Cond.instanceMethod ⟨"NotedHouseModel", "play", "(III)I"⟩ ∈ tbl := tb_in (List.mem_append_right _ (List.mem_of_getElem? (i := 654) (by decide +kernel))) (by decide +kernel)
theorem tw_655 : Cond.selects "NotedHouseModel" ⟨"NotedHouseModel", "play", "(III)I"⟩ ⟨"NotedHouseModel", "play", "(III)I"⟩ ∈ tbl := tb_in (List.mem_append_right _ (List.mem_of_getElem? (i := 655) (by decide +kernel))) (by decide +kernel)
theorem tw_656 : Cond.code ⟨"NotedHouseModel", "play", "(III)I"⟩ prog_6_method_20_code (4 : Nat) (Option.some FieldType.int) ∈ tbl := tb_in (List.mem_append_right _ (List.mem_of_getElem? (i := 656) (by decide +kernel))) (by decide +kernel)
theorem tw_657 : Cond.methodLink "NotedHouseModel" (87 : Nat) ⟨"NotedHouseModel", "isMoment", "(I)Z"⟩ ∈ tbl := tb_in (List.mem_append_right _ (List.mem_of_getElem? (i := 657) (by decide +kernel))) (by decide +kernel)
theorem tw_658 : Cond.static ⟨"NotedHouseModel", "isMoment", "(I)Z"⟩ ∈ tbl := tb_in (List.mem_append_right _ (List.mem_of_getElem? (i := 658) (by decide +kernel))) (by decide +kernel)
theorem tw_659 : Cond.code ⟨"NotedHouseModel", "isMoment", "(I)Z"⟩ prog_6_method_18_code (1 : Nat) (Option.some FieldType.boolean) ∈ tbl := tb_in (List.mem_append_right _ (List.mem_of_getElem? (i := 659) (by decide +kernel))) (by decide +kernel)
theorem tw_660 : Cond.constantLong "NotedHouseModel" (83 : Nat) (15 : Int64) ∈ tbl := tb_in (List.mem_append_right _ (List.mem_of_getElem? (i := 660) (by decide +kernel))) (by decide +kernel)
theorem tw_661 : Cond.methodLink "NotedHouseModel" (46 : Nat) ⟨"NotedHouseModel", "in", "(JJJ)Z"⟩ ∈ tbl := tb_in (List.mem_append_right _ (List.mem_of_getElem? (i := 661) (by decide +kernel))) (by decide +kernel)
theorem tw_662 : Cond.static ⟨"NotedHouseModel", "in", "(JJJ)Z"⟩ ∈ tbl := tb_in (List.mem_append_right _ (List.mem_of_getElem? (i := 662) (by decide +kernel))) (by decide +kernel)
theorem tw_663 : Cond.code ⟨"NotedHouseModel", "in", "(JJJ)Z"⟩ prog_6_method_4_code (6 : Nat) (Option.some FieldType.boolean) ∈ tbl := tb_in (List.mem_append_right _ (List.mem_of_getElem? (i := 663) (by decide +kernel))) (by decide +kernel)
theorem tw_664 : Cond.constantLong "NotedHouseModel" (85 : Nat) (4 : Int64) ∈ tbl := tb_in (List.mem_append_right _ (List.mem_of_getElem? (i := 664) (by decide +kernel))) (by decide +kernel)
theorem tw_665 : Cond.constantLong "NotedHouseModel" (90 : Nat) (20 : Int64) ∈ tbl := tb_in (List.mem_append_right _ (List.mem_of_getElem? (i := 665) (by decide +kernel))) (by decide +kernel)
theorem tw_666 : Cond.methodLink "NotedHouseModel" (92 : Nat) ⟨"NotedHouseModel", "finds", "(I)I"⟩ ∈ tbl := tb_in (List.mem_append_right _ (List.mem_of_getElem? (i := 666) (by decide +kernel))) (by decide +kernel)
theorem tw_667 : Cond.privateMethod ⟨"NotedHouseModel", "finds", "(I)I"⟩ ∈ tbl := tb_in (List.mem_append_right _ (List.mem_of_getElem? (i := 667) (by decide +kernel))) (by decide +kernel)
theorem tw_668 : Cond.instanceMethod ⟨"NotedHouseModel", "finds", "(I)I"⟩ ∈ tbl := tb_in (List.mem_append_right _ (List.mem_of_getElem? (i := 668) (by decide +kernel))) (by decide +kernel)
theorem tw_669 : Cond.code ⟨"NotedHouseModel", "finds", "(I)I"⟩ prog_6_method_3_code (2 : Nat) (Option.some FieldType.int) ∈ tbl := tb_in (List.mem_append_right _ (List.mem_of_getElem? (i := 669) (by decide +kernel))) (by decide +kernel)
theorem tw_670 : Cond.constant "NotedHouseModel" (45 : Nat) (-1000000001 : Int32) ∈ tbl := tb_in (List.mem_append_right _ (List.mem_of_getElem? (i := 670) (by decide +kernel))) (by decide +kernel)
theorem tw_671 : Cond.methodLink "NotedHouseModel" (95 : Nat) ⟨"NotedHouseModel", "becomes", "(II)I"⟩ ∈ tbl := tb_in (List.mem_append_right _ (List.mem_of_getElem? (i := 671) (by decide +kernel))) (by decide +kernel)
theorem tw_672 : Cond.privateMethod ⟨"NotedHouseModel", "becomes", "(II)I"⟩ ∈ tbl := tb_in (List.mem_append_right _ (List.mem_of_getElem? (i := 672) (by decide +kernel))) (by decide +kernel)
theorem tw_673 : Cond.instanceMethod ⟨"NotedHouseModel", "becomes", "(II)I"⟩ ∈ tbl := tb_in (List.mem_append_right _ (List.mem_of_getElem? (i := 673) (by decide +kernel))) (by decide +kernel)
theorem tw_674 : Cond.code ⟨"NotedHouseModel", "becomes", "(II)I"⟩ prog_6_method_10_code (4 : Nat) (Option.some FieldType.int) ∈ tbl := tb_in (List.mem_append_right _ (List.mem_of_getElem? (i := 674) (by decide +kernel))) (by decide +kernel)
theorem tw_675 : Cond.methodLink "NotedHouseLaw" (22 : Nat) ⟨"NotedHouseModel", "now", "(I)I"⟩ ∈ tbl := tb_in (List.mem_append_right _ (List.mem_of_getElem? (i := 675) (by decide +kernel))) (by decide +kernel)
theorem tw_676 : Cond.instanceMethod ⟨"NotedHouseModel", "now", "(I)I"⟩ ∈ tbl := tb_in (List.mem_append_right _ (List.mem_of_getElem? (i := 676) (by decide +kernel))) (by decide +kernel)
theorem tw_677 : Cond.selects "NotedHouseModel" ⟨"NotedHouseModel", "now", "(I)I"⟩ ⟨"NotedHouseModel", "now", "(I)I"⟩ ∈ tbl := tb_in (List.mem_append_right _ (List.mem_of_getElem? (i := 677) (by decide +kernel))) (by decide +kernel)
theorem tw_678 : Cond.code ⟨"NotedHouseModel", "now", "(I)I"⟩ prog_6_method_22_code (2 : Nat) (Option.some FieldType.int) ∈ tbl := tb_in (List.mem_append_right _ (List.mem_of_getElem? (i := 678) (by decide +kernel))) (by decide +kernel)
theorem tw_679 : Cond.methodLink "NotedHouseModel" (98 : Nat) ⟨"NotedHouseModel", "sumOf", "(I)I"⟩ ∈ tbl := tb_in (List.mem_append_right _ (List.mem_of_getElem? (i := 679) (by decide +kernel))) (by decide +kernel)
theorem tw_680 : Cond.privateMethod ⟨"NotedHouseModel", "sumOf", "(I)I"⟩ ∈ tbl := tb_in (List.mem_append_right _ (List.mem_of_getElem? (i := 680) (by decide +kernel))) (by decide +kernel)
theorem tw_681 : Cond.instanceMethod ⟨"NotedHouseModel", "sumOf", "(I)I"⟩ ∈ tbl := tb_in (List.mem_append_right _ (List.mem_of_getElem? (i := 681) (by decide +kernel))) (by decide +kernel)
theorem tw_682 : Cond.code ⟨"NotedHouseModel", "sumOf", "(I)I"⟩ prog_6_method_17_code (4 : Nat) (Option.some FieldType.int) ∈ tbl := tb_in (List.mem_append_right _ (List.mem_of_getElem? (i := 682) (by decide +kernel))) (by decide +kernel)
theorem tw_683 : Cond.methodLink "NotedHouseModel" (54 : Nat) ⟨"NotedHouseModel", "its", "(II)I"⟩ ∈ tbl := tb_in (List.mem_append_right _ (List.mem_of_getElem? (i := 683) (by decide +kernel))) (by decide +kernel)
theorem tw_684 : Cond.privateMethod ⟨"NotedHouseModel", "its", "(II)I"⟩ ∈ tbl := tb_in (List.mem_append_right _ (List.mem_of_getElem? (i := 684) (by decide +kernel))) (by decide +kernel)
theorem tw_685 : Cond.instanceMethod ⟨"NotedHouseModel", "its", "(II)I"⟩ ∈ tbl := tb_in (List.mem_append_right _ (List.mem_of_getElem? (i := 685) (by decide +kernel))) (by decide +kernel)
theorem tw_686 : Cond.code ⟨"NotedHouseModel", "its", "(II)I"⟩ prog_6_method_8_code (3 : Nat) (Option.some FieldType.int) ∈ tbl := tb_in (List.mem_append_right _ (List.mem_of_getElem? (i := 686) (by decide +kernel))) (by decide +kernel)
theorem tw_687 : Cond.methodLink "NotedHouseModel" (101 : Nat) ⟨"NotedHouseModel", "doers", "(IZ)I"⟩ ∈ tbl := tb_in (List.mem_append_right _ (List.mem_of_getElem? (i := 687) (by decide +kernel))) (by decide +kernel)
theorem tw_688 : Cond.privateMethod ⟨"NotedHouseModel", "doers", "(IZ)I"⟩ ∈ tbl := tb_in (List.mem_append_right _ (List.mem_of_getElem? (i := 688) (by decide +kernel))) (by decide +kernel)
theorem tw_689 : Cond.instanceMethod ⟨"NotedHouseModel", "doers", "(IZ)I"⟩ ∈ tbl := tb_in (List.mem_append_right _ (List.mem_of_getElem? (i := 689) (by decide +kernel))) (by decide +kernel)
theorem tw_690 : Cond.code ⟨"NotedHouseModel", "doers", "(IZ)I"⟩ prog_6_method_21_code (7 : Nat) (Option.some FieldType.int) ∈ tbl := tb_in (List.mem_append_right _ (List.mem_of_getElem? (i := 690) (by decide +kernel))) (by decide +kernel)
theorem tw_691 : Cond.methodLink "NotedHouseModel" (66 : Nat) ⟨"NotedHouseModel", "doesNow", "(I)I"⟩ ∈ tbl := tb_in (List.mem_append_right _ (List.mem_of_getElem? (i := 691) (by decide +kernel))) (by decide +kernel)
theorem tw_692 : Cond.privateMethod ⟨"NotedHouseModel", "doesNow", "(I)I"⟩ ∈ tbl := tb_in (List.mem_append_right _ (List.mem_of_getElem? (i := 692) (by decide +kernel))) (by decide +kernel)
theorem tw_693 : Cond.instanceMethod ⟨"NotedHouseModel", "doesNow", "(I)I"⟩ ∈ tbl := tb_in (List.mem_append_right _ (List.mem_of_getElem? (i := 693) (by decide +kernel))) (by decide +kernel)
theorem tw_694 : Cond.code ⟨"NotedHouseModel", "doesNow", "(I)I"⟩ prog_6_method_12_code (6 : Nat) (Option.some FieldType.int) ∈ tbl := tb_in (List.mem_append_right _ (List.mem_of_getElem? (i := 694) (by decide +kernel))) (by decide +kernel)
theorem tw_695 : Cond.methodLink "NotedHouseModel" (58 : Nat) ⟨"NotedHouseModel", "isBeside", "(II)Z"⟩ ∈ tbl := tb_in (List.mem_append_right _ (List.mem_of_getElem? (i := 695) (by decide +kernel))) (by decide +kernel)
theorem tw_696 : Cond.privateMethod ⟨"NotedHouseModel", "isBeside", "(II)Z"⟩ ∈ tbl := tb_in (List.mem_append_right _ (List.mem_of_getElem? (i := 696) (by decide +kernel))) (by decide +kernel)
theorem tw_697 : Cond.instanceMethod ⟨"NotedHouseModel", "isBeside", "(II)Z"⟩ ∈ tbl := tb_in (List.mem_append_right _ (List.mem_of_getElem? (i := 697) (by decide +kernel))) (by decide +kernel)
theorem tw_698 : Cond.code ⟨"NotedHouseModel", "isBeside", "(II)Z"⟩ prog_6_method_11_code (3 : Nat) (Option.some FieldType.boolean) ∈ tbl := tb_in (List.mem_append_right _ (List.mem_of_getElem? (i := 698) (by decide +kernel))) (by decide +kernel)
theorem tw_699 : Cond.methodLink "NotedHouseModel" (50 : Nat) ⟨"NotedHouseModel", "isPerson", "(I)Z"⟩ ∈ tbl := tb_in (List.mem_append_right _ (List.mem_of_getElem? (i := 699) (by decide +kernel))) (by decide +kernel)
theorem tw_700 : Cond.privateMethod ⟨"NotedHouseModel", "isPerson", "(I)Z"⟩ ∈ tbl := tb_in (List.mem_append_right _ (List.mem_of_getElem? (i := 700) (by decide +kernel))) (by decide +kernel)
theorem tw_701 : Cond.instanceMethod ⟨"NotedHouseModel", "isPerson", "(I)Z"⟩ ∈ tbl := tb_in (List.mem_append_right _ (List.mem_of_getElem? (i := 701) (by decide +kernel))) (by decide +kernel)
theorem tw_702 : Cond.code ⟨"NotedHouseModel", "isPerson", "(I)Z"⟩ prog_6_method_7_code (2 : Nat) (Option.some FieldType.boolean) ∈ tbl := tb_in (List.mem_append_right _ (List.mem_of_getElem? (i := 702) (by decide +kernel))) (by decide +kernel)
theorem tw_703 : Cond.methodLink "NotedHouseLaw" (26 : Nat) ⟨"NotedHouseModel", "person", "(I)I"⟩ ∈ tbl := tb_in (List.mem_append_right _ (List.mem_of_getElem? (i := 703) (by decide +kernel))) (by decide +kernel)
theorem tw_704 : Cond.instanceMethod ⟨"NotedHouseModel", "person", "(I)I"⟩ ∈ tbl := tb_in (List.mem_append_right _ (List.mem_of_getElem? (i := 704) (by decide +kernel))) (by decide +kernel)
theorem tw_705 : Cond.selects "NotedHouseModel" ⟨"NotedHouseModel", "person", "(I)I"⟩ ⟨"NotedHouseModel", "person", "(I)I"⟩ ∈ tbl := tb_in (List.mem_append_right _ (List.mem_of_getElem? (i := 705) (by decide +kernel))) (by decide +kernel)
theorem tw_706 : Cond.code ⟨"NotedHouseModel", "person", "(I)I"⟩ prog_6_method_24_code (2 : Nat) (Option.some FieldType.int) ∈ tbl := tb_in (List.mem_append_right _ (List.mem_of_getElem? (i := 706) (by decide +kernel))) (by decide +kernel)
theorem tw_707 : Cond.constantLong "NotedHouseModel" (105 : Nat) (5 : Int64) ∈ tbl := tb_in (List.mem_append_right _ (List.mem_of_getElem? (i := 707) (by decide +kernel))) (by decide +kernel)
theorem tw_708 : Cond.methodLink "NotedHouseModel" (107 : Nat) ⟨"NotedHouseModel", "comesIn", "(I)I"⟩ ∈ tbl := tb_in (List.mem_append_right _ (List.mem_of_getElem? (i := 708) (by decide +kernel))) (by decide +kernel)
theorem tw_709 : Cond.privateMethod ⟨"NotedHouseModel", "comesIn", "(I)I"⟩ ∈ tbl := tb_in (List.mem_append_right _ (List.mem_of_getElem? (i := 709) (by decide +kernel))) (by decide +kernel)
theorem tw_710 : Cond.instanceMethod ⟨"NotedHouseModel", "comesIn", "(I)I"⟩ ∈ tbl := tb_in (List.mem_append_right _ (List.mem_of_getElem? (i := 710) (by decide +kernel))) (by decide +kernel)
theorem tw_711 : Cond.code ⟨"NotedHouseModel", "comesIn", "(I)I"⟩ prog_6_method_23_code (3 : Nat) (Option.some FieldType.int) ∈ tbl := tb_in (List.mem_append_right _ (List.mem_of_getElem? (i := 711) (by decide +kernel))) (by decide +kernel)
theorem tw_712 : Cond.methodLink "NotedHouseModel" (73 : Nat) ⟨"NotedHouseModel", "sets", "(III)V"⟩ ∈ tbl := tb_in (List.mem_append_right _ (List.mem_of_getElem? (i := 712) (by decide +kernel))) (by decide +kernel)
theorem tw_713 : Cond.privateMethod ⟨"NotedHouseModel", "sets", "(III)V"⟩ ∈ tbl := tb_in (List.mem_append_right _ (List.mem_of_getElem? (i := 713) (by decide +kernel))) (by decide +kernel)
theorem tw_714 : Cond.instanceMethod ⟨"NotedHouseModel", "sets", "(III)V"⟩ ∈ tbl := tb_in (List.mem_append_right _ (List.mem_of_getElem? (i := 714) (by decide +kernel))) (by decide +kernel)
theorem tw_715 : Cond.code ⟨"NotedHouseModel", "sets", "(III)V"⟩ prog_6_method_9_code (4 : Nat) none ∈ tbl := tb_in (List.mem_append_right _ (List.mem_of_getElem? (i := 715) (by decide +kernel))) (by decide +kernel)
theorem tw_716 : Cond.methodLink "NotedHouseLaw" (31 : Nat) ⟨"NotedHouseModel", "of", "(II)I"⟩ ∈ tbl := tb_in (List.mem_append_right _ (List.mem_of_getElem? (i := 716) (by decide +kernel))) (by decide +kernel)
theorem tw_717 : Cond.instanceMethod ⟨"NotedHouseModel", "of", "(II)I"⟩ ∈ tbl := tb_in (List.mem_append_right _ (List.mem_of_getElem? (i := 717) (by decide +kernel))) (by decide +kernel)
theorem tw_718 : Cond.selects "NotedHouseModel" ⟨"NotedHouseModel", "of", "(II)I"⟩ ⟨"NotedHouseModel", "of", "(II)I"⟩ ∈ tbl := tb_in (List.mem_append_right _ (List.mem_of_getElem? (i := 718) (by decide +kernel))) (by decide +kernel)
theorem tw_719 : Cond.code ⟨"NotedHouseModel", "of", "(II)I"⟩ prog_6_method_25_code (3 : Nat) (Option.some FieldType.int) ∈ tbl := tb_in (List.mem_append_right _ (List.mem_of_getElem? (i := 719) (by decide +kernel))) (by decide +kernel)
theorem tw_720 : Cond.methodLink "NotedHouseModel" (77 : Nat) ⟨"NotedHouseModel", "stales", "(I)I"⟩ ∈ tbl := tb_in (List.mem_append_right _ (List.mem_of_getElem? (i := 720) (by decide +kernel))) (by decide +kernel)
theorem tw_721 : Cond.privateMethod ⟨"NotedHouseModel", "stales", "(I)I"⟩ ∈ tbl := tb_in (List.mem_append_right _ (List.mem_of_getElem? (i := 721) (by decide +kernel))) (by decide +kernel)
theorem tw_722 : Cond.instanceMethod ⟨"NotedHouseModel", "stales", "(I)I"⟩ ∈ tbl := tb_in (List.mem_append_right _ (List.mem_of_getElem? (i := 722) (by decide +kernel))) (by decide +kernel)
theorem tw_723 : Cond.code ⟨"NotedHouseModel", "stales", "(I)I"⟩ prog_6_method_14_code (2 : Nat) (Option.some FieldType.int) ∈ tbl := tb_in (List.mem_append_right _ (List.mem_of_getElem? (i := 723) (by decide +kernel))) (by decide +kernel)
theorem tw_724 : Cond.methodLink "NotedHouseLaw" (35 : Nat) ⟨"NotedHouseModel", "scores", "(III)I"⟩ ∈ tbl := tb_in (List.mem_append_right _ (List.mem_of_getElem? (i := 724) (by decide +kernel))) (by decide +kernel)
theorem tw_725 : Cond.instanceMethod ⟨"NotedHouseModel", "scores", "(III)I"⟩ ∈ tbl := tb_in (List.mem_append_right _ (List.mem_of_getElem? (i := 725) (by decide +kernel))) (by decide +kernel)
theorem tw_726 : Cond.selects "NotedHouseModel" ⟨"NotedHouseModel", "scores", "(III)I"⟩ ⟨"NotedHouseModel", "scores", "(III)I"⟩ ∈ tbl := tb_in (List.mem_append_right _ (List.mem_of_getElem? (i := 726) (by decide +kernel))) (by decide +kernel)
theorem tw_727 : Cond.code ⟨"NotedHouseModel", "scores", "(III)I"⟩ prog_6_method_26_code (4 : Nat) (Option.some FieldType.int) ∈ tbl := tb_in (List.mem_append_right _ (List.mem_of_getElem? (i := 727) (by decide +kernel))) (by decide +kernel)
theorem tw_728 : Cond.methodLink "NotedHouseModel" (110 : Nat) ⟨"NotedHouseModel", "isDone", "(I)Z"⟩ ∈ tbl := tb_in (List.mem_append_right _ (List.mem_of_getElem? (i := 728) (by decide +kernel))) (by decide +kernel)
theorem tw_729 : Cond.static ⟨"NotedHouseModel", "isDone", "(I)Z"⟩ ∈ tbl := tb_in (List.mem_append_right _ (List.mem_of_getElem? (i := 729) (by decide +kernel))) (by decide +kernel)
theorem tw_730 : Cond.code ⟨"NotedHouseModel", "isDone", "(I)Z"⟩ prog_6_method_19_code (1 : Nat) (Option.some FieldType.boolean) ∈ tbl := tb_in (List.mem_append_right _ (List.mem_of_getElem? (i := 730) (by decide +kernel))) (by decide +kernel)
theorem tw_731 : Cond.methodLink "NotedHouseModel" (70 : Nat) ⟨"NotedHouseModel", "scoresFor", "(III)I"⟩ ∈ tbl := tb_in (List.mem_append_right _ (List.mem_of_getElem? (i := 731) (by decide +kernel))) (by decide +kernel)
theorem tw_732 : Cond.privateMethod ⟨"NotedHouseModel", "scoresFor", "(III)I"⟩ ∈ tbl := tb_in (List.mem_append_right _ (List.mem_of_getElem? (i := 732) (by decide +kernel))) (by decide +kernel)
theorem tw_733 : Cond.instanceMethod ⟨"NotedHouseModel", "scoresFor", "(III)I"⟩ ∈ tbl := tb_in (List.mem_append_right _ (List.mem_of_getElem? (i := 733) (by decide +kernel))) (by decide +kernel)
theorem tw_734 : Cond.code ⟨"NotedHouseModel", "scoresFor", "(III)I"⟩ prog_6_method_13_code (7 : Nat) (Option.some FieldType.int) ∈ tbl := tb_in (List.mem_append_right _ (List.mem_of_getElem? (i := 734) (by decide +kernel))) (by decide +kernel)
theorem tw_735 : Cond.methodLink "NotedHouseModel" (62 : Nat) ⟨"NotedHouseModel", "held", "(III)I"⟩ ∈ tbl := tb_in (List.mem_append_right _ (List.mem_of_getElem? (i := 735) (by decide +kernel))) (by decide +kernel)
theorem tw_736 : Cond.static ⟨"NotedHouseModel", "held", "(III)I"⟩ ∈ tbl := tb_in (List.mem_append_right _ (List.mem_of_getElem? (i := 736) (by decide +kernel))) (by decide +kernel)
theorem tw_737 : Cond.code ⟨"NotedHouseModel", "held", "(III)I"⟩ prog_6_method_5_code (3 : Nat) (Option.some FieldType.int) ∈ tbl := tb_in (List.mem_append_right _ (List.mem_of_getElem? (i := 737) (by decide +kernel))) (by decide +kernel)
theorem tw_738 : Cond.methodLink "NotedHouseLaw" (39 : Nat) ⟨"NotedHouseModel", "set", "(III)I"⟩ ∈ tbl := tb_in (List.mem_append_right _ (List.mem_of_getElem? (i := 738) (by decide +kernel))) (by decide +kernel)
theorem tw_739 : Cond.instanceMethod ⟨"NotedHouseModel", "set", "(III)I"⟩ ∈ tbl := tb_in (List.mem_append_right _ (List.mem_of_getElem? (i := 739) (by decide +kernel))) (by decide +kernel)
theorem tw_740 : Cond.selects "NotedHouseModel" ⟨"NotedHouseModel", "set", "(III)I"⟩ ⟨"NotedHouseModel", "set", "(III)I"⟩ ∈ tbl := tb_in (List.mem_append_right _ (List.mem_of_getElem? (i := 740) (by decide +kernel))) (by decide +kernel)
theorem tw_741 : Cond.code ⟨"NotedHouseModel", "set", "(III)I"⟩ prog_6_method_27_code (5 : Nat) (Option.some FieldType.int) ∈ tbl := tb_in (List.mem_append_right _ (List.mem_of_getElem? (i := 741) (by decide +kernel))) (by decide +kernel)
theorem tw_742 : Cond.constantLong "NotedHouseModel" (113 : Nat) (99 : Int64) ∈ tbl := tb_in (List.mem_append_right _ (List.mem_of_getElem? (i := 742) (by decide +kernel))) (by decide +kernel)
theorem tw_743 : Cond.constantLong "NotedHouseModel" (115 : Nat) (-9999 : Int64) ∈ tbl := tb_in (List.mem_append_right _ (List.mem_of_getElem? (i := 743) (by decide +kernel))) (by decide +kernel)
theorem tw_744 : Cond.constantLong "NotedHouseModel" (117 : Nat) (9999 : Int64) ∈ tbl := tb_in (List.mem_append_right _ (List.mem_of_getElem? (i := 744) (by decide +kernel))) (by decide +kernel)
theorem tw_745 : Cond.methodLink "NotedHouseLaw" (43 : Nat) ⟨"NotedHouseModel", "turn", "(II)I"⟩ ∈ tbl := tb_in (List.mem_append_right _ (List.mem_of_getElem? (i := 745) (by decide +kernel))) (by decide +kernel)
theorem tw_746 : Cond.instanceMethod ⟨"NotedHouseModel", "turn", "(II)I"⟩ ∈ tbl := tb_in (List.mem_append_right _ (List.mem_of_getElem? (i := 746) (by decide +kernel))) (by decide +kernel)
theorem tw_747 : Cond.selects "NotedHouseModel" ⟨"NotedHouseModel", "turn", "(II)I"⟩ ⟨"NotedHouseModel", "turn", "(II)I"⟩ ∈ tbl := tb_in (List.mem_append_right _ (List.mem_of_getElem? (i := 747) (by decide +kernel))) (by decide +kernel)
theorem tw_748 : Cond.code ⟨"NotedHouseModel", "turn", "(II)I"⟩ prog_6_method_28_code (3 : Nat) (Option.some FieldType.int) ∈ tbl := tb_in (List.mem_append_right _ (List.mem_of_getElem? (i := 748) (by decide +kernel))) (by decide +kernel)
theorem tw_749 : Cond.methodLink "NotedHouseLaw" (47 : Nat) ⟨"NotedHouseModel", "as", "(II)I"⟩ ∈ tbl := tb_in (List.mem_append_right _ (List.mem_of_getElem? (i := 749) (by decide +kernel))) (by decide +kernel)
theorem tw_750 : Cond.instanceMethod ⟨"NotedHouseModel", "as", "(II)I"⟩ ∈ tbl := tb_in (List.mem_append_right _ (List.mem_of_getElem? (i := 750) (by decide +kernel))) (by decide +kernel)
theorem tw_751 : Cond.selects "NotedHouseModel" ⟨"NotedHouseModel", "as", "(II)I"⟩ ⟨"NotedHouseModel", "as", "(II)I"⟩ ∈ tbl := tb_in (List.mem_append_right _ (List.mem_of_getElem? (i := 751) (by decide +kernel))) (by decide +kernel)
theorem tw_752 : Cond.code ⟨"NotedHouseModel", "as", "(II)I"⟩ prog_6_method_29_code (4 : Nat) (Option.some FieldType.int) ∈ tbl := tb_in (List.mem_append_right _ (List.mem_of_getElem? (i := 752) (by decide +kernel))) (by decide +kernel)
theorem tw_753 : Cond.methodLink "NotedHouseLaw" (51 : Nat) ⟨"NotedHouseModel", "swap", "(II)I"⟩ ∈ tbl := tb_in (List.mem_append_right _ (List.mem_of_getElem? (i := 753) (by decide +kernel))) (by decide +kernel)
theorem tw_754 : Cond.instanceMethod ⟨"NotedHouseModel", "swap", "(II)I"⟩ ∈ tbl := tb_in (List.mem_append_right _ (List.mem_of_getElem? (i := 754) (by decide +kernel))) (by decide +kernel)
theorem tw_755 : Cond.selects "NotedHouseModel" ⟨"NotedHouseModel", "swap", "(II)I"⟩ ⟨"NotedHouseModel", "swap", "(II)I"⟩ ∈ tbl := tb_in (List.mem_append_right _ (List.mem_of_getElem? (i := 755) (by decide +kernel))) (by decide +kernel)
theorem tw_756 : Cond.code ⟨"NotedHouseModel", "swap", "(II)I"⟩ prog_6_method_31_code (3 : Nat) (Option.some FieldType.int) ∈ tbl := tb_in (List.mem_append_right _ (List.mem_of_getElem? (i := 756) (by decide +kernel))) (by decide +kernel)
theorem tw_757 : Cond.methodLink "NotedHouseModel" (119 : Nat) ⟨"NotedHouseModel", "swaps", "(II)V"⟩ ∈ tbl := tb_in (List.mem_append_right _ (List.mem_of_getElem? (i := 757) (by decide +kernel))) (by decide +kernel)
theorem tw_758 : Cond.privateMethod ⟨"NotedHouseModel", "swaps", "(II)V"⟩ ∈ tbl := tb_in (List.mem_append_right _ (List.mem_of_getElem? (i := 758) (by decide +kernel))) (by decide +kernel)
theorem tw_759 : Cond.instanceMethod ⟨"NotedHouseModel", "swaps", "(II)V"⟩ ∈ tbl := tb_in (List.mem_append_right _ (List.mem_of_getElem? (i := 759) (by decide +kernel))) (by decide +kernel)
theorem tw_760 : Cond.code ⟨"NotedHouseModel", "swaps", "(II)V"⟩ prog_6_method_30_code (5 : Nat) none ∈ tbl := tb_in (List.mem_append_right _ (List.mem_of_getElem? (i := 760) (by decide +kernel))) (by decide +kernel)
theorem tw_761 : Cond.methodLink "NotedHouseLaw" (55 : Nat) ⟨"NotedHouseModel", "moments", "(I)I"⟩ ∈ tbl := tb_in (List.mem_append_right _ (List.mem_of_getElem? (i := 761) (by decide +kernel))) (by decide +kernel)
theorem tw_762 : Cond.instanceMethod ⟨"NotedHouseModel", "moments", "(I)I"⟩ ∈ tbl := tb_in (List.mem_append_right _ (List.mem_of_getElem? (i := 762) (by decide +kernel))) (by decide +kernel)
theorem tw_763 : Cond.selects "NotedHouseModel" ⟨"NotedHouseModel", "moments", "(I)I"⟩ ⟨"NotedHouseModel", "moments", "(I)I"⟩ ∈ tbl := tb_in (List.mem_append_right _ (List.mem_of_getElem? (i := 763) (by decide +kernel))) (by decide +kernel)
theorem tw_764 : Cond.code ⟨"NotedHouseModel", "moments", "(I)I"⟩ prog_6_method_32_code (2 : Nat) (Option.some FieldType.int) ∈ tbl := tb_in (List.mem_append_right _ (List.mem_of_getElem? (i := 764) (by decide +kernel))) (by decide +kernel)
theorem tw_765 : Cond.constantLong "NotedHouseModel" (123 : Nat) (200 : Int64) ∈ tbl := tb_in (List.mem_append_right _ (List.mem_of_getElem? (i := 765) (by decide +kernel))) (by decide +kernel)
theorem tw_766 : Cond.methodLink "NotedHouseModel" (125 : Nat) ⟨"NotedHouseModel", "momentsGo", "(I)V"⟩ ∈ tbl := tb_in (List.mem_append_right _ (List.mem_of_getElem? (i := 766) (by decide +kernel))) (by decide +kernel)
theorem tw_767 : Cond.privateMethod ⟨"NotedHouseModel", "momentsGo", "(I)V"⟩ ∈ tbl := tb_in (List.mem_append_right _ (List.mem_of_getElem? (i := 767) (by decide +kernel))) (by decide +kernel)
theorem tw_768 : Cond.instanceMethod ⟨"NotedHouseModel", "momentsGo", "(I)V"⟩ ∈ tbl := tb_in (List.mem_append_right _ (List.mem_of_getElem? (i := 768) (by decide +kernel))) (by decide +kernel)
theorem tw_769 : Cond.code ⟨"NotedHouseModel", "momentsGo", "(I)V"⟩ prog_6_method_16_code (3 : Nat) none ∈ tbl := tb_in (List.mem_append_right _ (List.mem_of_getElem? (i := 769) (by decide +kernel))) (by decide +kernel)
theorem tw_770 : Cond.methodLink "NotedHouseModel" (80 : Nat) ⟨"NotedHouseModel", "momentGoes", "()V"⟩ ∈ tbl := tb_in (List.mem_append_right _ (List.mem_of_getElem? (i := 770) (by decide +kernel))) (by decide +kernel)
theorem tw_771 : Cond.privateMethod ⟨"NotedHouseModel", "momentGoes", "()V"⟩ ∈ tbl := tb_in (List.mem_append_right _ (List.mem_of_getElem? (i := 771) (by decide +kernel))) (by decide +kernel)
theorem tw_772 : Cond.instanceMethod ⟨"NotedHouseModel", "momentGoes", "()V"⟩ ∈ tbl := tb_in (List.mem_append_right _ (List.mem_of_getElem? (i := 772) (by decide +kernel))) (by decide +kernel)
theorem tw_773 : Cond.code ⟨"NotedHouseModel", "momentGoes", "()V"⟩ prog_6_method_15_code (3 : Nat) none ∈ tbl := tb_in (List.mem_append_right _ (List.mem_of_getElem? (i := 773) (by decide +kernel))) (by decide +kernel)
theorem tw_774 : Cond.methodLink "NotedHouseLaw" (59 : Nat) ⟨"NotedHouseModel", "note", "(II)I"⟩ ∈ tbl := tb_in (List.mem_append_right _ (List.mem_of_getElem? (i := 774) (by decide +kernel))) (by decide +kernel)
theorem tw_775 : Cond.instanceMethod ⟨"NotedHouseModel", "note", "(II)I"⟩ ∈ tbl := tb_in (List.mem_append_right _ (List.mem_of_getElem? (i := 775) (by decide +kernel))) (by decide +kernel)
theorem tw_776 : Cond.selects "NotedHouseModel" ⟨"NotedHouseModel", "note", "(II)I"⟩ ⟨"NotedHouseModel", "note", "(II)I"⟩ ∈ tbl := tb_in (List.mem_append_right _ (List.mem_of_getElem? (i := 776) (by decide +kernel))) (by decide +kernel)
theorem tw_777 : Cond.code ⟨"NotedHouseModel", "note", "(II)I"⟩ prog_6_method_38_code (3 : Nat) (Option.some FieldType.int) ∈ tbl := tb_in (List.mem_append_right _ (List.mem_of_getElem? (i := 777) (by decide +kernel))) (by decide +kernel)
theorem tw_778 : Cond.methodLink "NotedHouseModel" (137 : Nat) ⟨"NotedHouseModel", "isAhead", "(I)Z"⟩ ∈ tbl := tb_in (List.mem_append_right _ (List.mem_of_getElem? (i := 778) (by decide +kernel))) (by decide +kernel)
theorem tw_779 : Cond.static ⟨"NotedHouseModel", "isAhead", "(I)Z"⟩ ∈ tbl := tb_in (List.mem_append_right _ (List.mem_of_getElem? (i := 779) (by decide +kernel))) (by decide +kernel)
theorem tw_780 : Cond.code ⟨"NotedHouseModel", "isAhead", "(I)Z"⟩ prog_6_method_35_code (1 : Nat) (Option.some FieldType.boolean) ∈ tbl := tb_in (List.mem_append_right _ (List.mem_of_getElem? (i := 780) (by decide +kernel))) (by decide +kernel)
theorem tw_781 : Cond.constantLong "NotedHouseModel" (133 : Nat) (400 : Int64) ∈ tbl := tb_in (List.mem_append_right _ (List.mem_of_getElem? (i := 781) (by decide +kernel))) (by decide +kernel)
theorem tw_782 : Cond.methodLink "NotedHouseModel" (129 : Nat) ⟨"NotedHouseModel", "copies", "([I[I)V"⟩ ∈ tbl := tb_in (List.mem_append_right _ (List.mem_of_getElem? (i := 782) (by decide +kernel))) (by decide +kernel)
theorem tw_783 : Cond.static ⟨"NotedHouseModel", "copies", "([I[I)V"⟩ ∈ tbl := tb_in (List.mem_append_right _ (List.mem_of_getElem? (i := 783) (by decide +kernel))) (by decide +kernel)
theorem tw_784 : Cond.code ⟨"NotedHouseModel", "copies", "([I[I)V"⟩ prog_6_method_6_code (3 : Nat) none ∈ tbl := tb_in (List.mem_append_right _ (List.mem_of_getElem? (i := 784) (by decide +kernel))) (by decide +kernel)
theorem tw_785 : Cond.methodLink "NotedHouseModel" (140 : Nat) ⟨"NotedHouseModel", "whereNote", "(I)I"⟩ ∈ tbl := tb_in (List.mem_append_right _ (List.mem_of_getElem? (i := 785) (by decide +kernel))) (by decide +kernel)
theorem tw_786 : Cond.privateMethod ⟨"NotedHouseModel", "whereNote", "(I)I"⟩ ∈ tbl := tb_in (List.mem_append_right _ (List.mem_of_getElem? (i := 786) (by decide +kernel))) (by decide +kernel)
theorem tw_787 : Cond.instanceMethod ⟨"NotedHouseModel", "whereNote", "(I)I"⟩ ∈ tbl := tb_in (List.mem_append_right _ (List.mem_of_getElem? (i := 787) (by decide +kernel))) (by decide +kernel)
theorem tw_788 : Cond.code ⟨"NotedHouseModel", "whereNote", "(I)I"⟩ prog_6_method_37_code (2 : Nat) (Option.some FieldType.int) ∈ tbl := tb_in (List.mem_append_right _ (List.mem_of_getElem? (i := 788) (by decide +kernel))) (by decide +kernel)
theorem tw_789 : Cond.methodLink "NotedHouseModel" (143 : Nat) ⟨"NotedHouseModel", "behind", "(II)I"⟩ ∈ tbl := tb_in (List.mem_append_right _ (List.mem_of_getElem? (i := 789) (by decide +kernel))) (by decide +kernel)
theorem tw_790 : Cond.privateMethod ⟨"NotedHouseModel", "behind", "(II)I"⟩ ∈ tbl := tb_in (List.mem_append_right _ (List.mem_of_getElem? (i := 790) (by decide +kernel))) (by decide +kernel)
theorem tw_791 : Cond.instanceMethod ⟨"NotedHouseModel", "behind", "(II)I"⟩ ∈ tbl := tb_in (List.mem_append_right _ (List.mem_of_getElem? (i := 791) (by decide +kernel))) (by decide +kernel)
theorem tw_792 : Cond.code ⟨"NotedHouseModel", "behind", "(II)I"⟩ prog_6_method_33_code (4 : Nat) (Option.some FieldType.int) ∈ tbl := tb_in (List.mem_append_right _ (List.mem_of_getElem? (i := 792) (by decide +kernel))) (by decide +kernel)
theorem tw_793 : Cond.methodLink "NotedHouseLaw" (63 : Nat) ⟨"NotedHouseModel", "on", "(III)I"⟩ ∈ tbl := tb_in (List.mem_append_right _ (List.mem_of_getElem? (i := 793) (by decide +kernel))) (by decide +kernel)
theorem tw_794 : Cond.instanceMethod ⟨"NotedHouseModel", "on", "(III)I"⟩ ∈ tbl := tb_in (List.mem_append_right _ (List.mem_of_getElem? (i := 794) (by decide +kernel))) (by decide +kernel)
theorem tw_795 : Cond.selects "NotedHouseModel" ⟨"NotedHouseModel", "on", "(III)I"⟩ ⟨"NotedHouseModel", "on", "(III)I"⟩ ∈ tbl := tb_in (List.mem_append_right _ (List.mem_of_getElem? (i := 795) (by decide +kernel))) (by decide +kernel)
theorem tw_796 : Cond.code ⟨"NotedHouseModel", "on", "(III)I"⟩ prog_6_method_39_code (4 : Nat) (Option.some FieldType.int) ∈ tbl := tb_in (List.mem_append_right _ (List.mem_of_getElem? (i := 796) (by decide +kernel))) (by decide +kernel)
theorem tw_797 : Cond.methodLink "NotedHouseLaw" (67 : Nat) ⟨"NotedHouseModel", "house", "(I)I"⟩ ∈ tbl := tb_in (List.mem_append_right _ (List.mem_of_getElem? (i := 797) (by decide +kernel))) (by decide +kernel)
theorem tw_798 : Cond.instanceMethod ⟨"NotedHouseModel", "house", "(I)I"⟩ ∈ tbl := tb_in (List.mem_append_right _ (List.mem_of_getElem? (i := 798) (by decide +kernel))) (by decide +kernel)
theorem tw_799 : Cond.selects "NotedHouseModel" ⟨"NotedHouseModel", "house", "(I)I"⟩ ⟨"NotedHouseModel", "house", "(I)I"⟩ ∈ tbl := tb_in (List.mem_append_right _ (List.mem_of_getElem? (i := 799) (by decide +kernel))) (by decide +kernel)
theorem tw_800 : Cond.code ⟨"NotedHouseModel", "house", "(I)I"⟩ prog_6_method_40_code (2 : Nat) (Option.some FieldType.int) ∈ tbl := tb_in (List.mem_append_right _ (List.mem_of_getElem? (i := 800) (by decide +kernel))) (by decide +kernel)
theorem tw_801 : Cond.methodLink "NotedHouseModel" (146 : Nat) ⟨"NotedHouseModel", "houseBehind", "(I)I"⟩ ∈ tbl := tb_in (List.mem_append_right _ (List.mem_of_getElem? (i := 801) (by decide +kernel))) (by decide +kernel)
theorem tw_802 : Cond.privateMethod ⟨"NotedHouseModel", "houseBehind", "(I)I"⟩ ∈ tbl := tb_in (List.mem_append_right _ (List.mem_of_getElem? (i := 802) (by decide +kernel))) (by decide +kernel)
theorem tw_803 : Cond.instanceMethod ⟨"NotedHouseModel", "houseBehind", "(I)I"⟩ ∈ tbl := tb_in (List.mem_append_right _ (List.mem_of_getElem? (i := 803) (by decide +kernel))) (by decide +kernel)
theorem tw_804 : Cond.code ⟨"NotedHouseModel", "houseBehind", "(I)I"⟩ prog_6_method_34_code (3 : Nat) (Option.some FieldType.int) ∈ tbl := tb_in (List.mem_append_right _ (List.mem_of_getElem? (i := 804) (by decide +kernel))) (by decide +kernel)
theorem tw_805 : Cond.methodLink "NotedHouseLaw" (71 : Nat) ⟨"NotedHouseModel", "heard", "(II)I"⟩ ∈ tbl := tb_in (List.mem_append_right _ (List.mem_of_getElem? (i := 805) (by decide +kernel))) (by decide +kernel)
theorem tw_806 : Cond.instanceMethod ⟨"NotedHouseModel", "heard", "(II)I"⟩ ∈ tbl := tb_in (List.mem_append_right _ (List.mem_of_getElem? (i := 806) (by decide +kernel))) (by decide +kernel)
theorem tw_807 : Cond.selects "NotedHouseModel" ⟨"NotedHouseModel", "heard", "(II)I"⟩ ⟨"NotedHouseModel", "heard", "(II)I"⟩ ∈ tbl := tb_in (List.mem_append_right _ (List.mem_of_getElem? (i := 807) (by decide +kernel))) (by decide +kernel)
theorem tw_808 : Cond.code ⟨"NotedHouseModel", "heard", "(II)I"⟩ prog_6_method_41_code (4 : Nat) (Option.some FieldType.int) ∈ tbl := tb_in (List.mem_append_right _ (List.mem_of_getElem? (i := 808) (by decide +kernel))) (by decide +kernel)
theorem tw_809 : Cond.methodLink "NotedHouseLaw" (75 : Nat) ⟨"NotedHouseModel", "does", "(II)I"⟩ ∈ tbl := tb_in (List.mem_append_right _ (List.mem_of_getElem? (i := 809) (by decide +kernel))) (by decide +kernel)
theorem tw_810 : Cond.instanceMethod ⟨"NotedHouseModel", "does", "(II)I"⟩ ∈ tbl := tb_in (List.mem_append_right _ (List.mem_of_getElem? (i := 810) (by decide +kernel))) (by decide +kernel)
theorem tw_811 : Cond.selects "NotedHouseModel" ⟨"NotedHouseModel", "does", "(II)I"⟩ ⟨"NotedHouseModel", "does", "(II)I"⟩ ∈ tbl := tb_in (List.mem_append_right _ (List.mem_of_getElem? (i := 811) (by decide +kernel))) (by decide +kernel)
theorem tw_812 : Cond.code ⟨"NotedHouseModel", "does", "(II)I"⟩ prog_6_method_42_code (5 : Nat) (Option.some FieldType.int) ∈ tbl := tb_in (List.mem_append_right _ (List.mem_of_getElem? (i := 812) (by decide +kernel))) (by decide +kernel)
theorem tw_813 : Cond.methodLink "NotedHouseLaw" (79 : Nat) ⟨"NotedHouseModel", "comes", "(II)I"⟩ ∈ tbl := tb_in (List.mem_append_right _ (List.mem_of_getElem? (i := 813) (by decide +kernel))) (by decide +kernel)
theorem tw_814 : Cond.instanceMethod ⟨"NotedHouseModel", "comes", "(II)I"⟩ ∈ tbl := tb_in (List.mem_append_right _ (List.mem_of_getElem? (i := 814) (by decide +kernel))) (by decide +kernel)
theorem tw_815 : Cond.selects "NotedHouseModel" ⟨"NotedHouseModel", "comes", "(II)I"⟩ ⟨"NotedHouseModel", "comes", "(II)I"⟩ ∈ tbl := tb_in (List.mem_append_right _ (List.mem_of_getElem? (i := 815) (by decide +kernel))) (by decide +kernel)
theorem tw_816 : Cond.code ⟨"NotedHouseModel", "comes", "(II)I"⟩ prog_6_method_43_code (5 : Nat) (Option.some FieldType.int) ∈ tbl := tb_in (List.mem_append_right _ (List.mem_of_getElem? (i := 816) (by decide +kernel))) (by decide +kernel)
theorem tw_817 : Cond.methodLink "NotedHouseLaw" (83 : Nat) ⟨"NotedHouseModel", "place", "(II)I"⟩ ∈ tbl := tb_in (List.mem_append_right _ (List.mem_of_getElem? (i := 817) (by decide +kernel))) (by decide +kernel)
theorem tw_818 : Cond.instanceMethod ⟨"NotedHouseModel", "place", "(II)I"⟩ ∈ tbl := tb_in (List.mem_append_right _ (List.mem_of_getElem? (i := 818) (by decide +kernel))) (by decide +kernel)
theorem tw_819 : Cond.selects "NotedHouseModel" ⟨"NotedHouseModel", "place", "(II)I"⟩ ⟨"NotedHouseModel", "place", "(II)I"⟩ ∈ tbl := tb_in (List.mem_append_right _ (List.mem_of_getElem? (i := 819) (by decide +kernel))) (by decide +kernel)
theorem tw_820 : Cond.code ⟨"NotedHouseModel", "place", "(II)I"⟩ prog_6_method_44_code (7 : Nat) (Option.some FieldType.int) ∈ tbl := tb_in (List.mem_append_right _ (List.mem_of_getElem? (i := 820) (by decide +kernel))) (by decide +kernel)
theorem tw_821 : Cond.methodLink "NotedHouseModel" (149 : Nat) ⟨"NotedHouseModel", "isShort", "(I)Z"⟩ ∈ tbl := tb_in (List.mem_append_right _ (List.mem_of_getElem? (i := 821) (by decide +kernel))) (by decide +kernel)
theorem tw_822 : Cond.static ⟨"NotedHouseModel", "isShort", "(I)Z"⟩ ∈ tbl := tb_in (List.mem_append_right _ (List.mem_of_getElem? (i := 822) (by decide +kernel))) (by decide +kernel)
theorem tw_823 : Cond.code ⟨"NotedHouseModel", "isShort", "(I)Z"⟩ prog_6_method_36_code (1 : Nat) (Option.some FieldType.boolean) ∈ tbl := tb_in (List.mem_append_right _ (List.mem_of_getElem? (i := 823) (by decide +kernel))) (by decide +kernel)
theorem tw_824 : Cond.constantLong "NotedHouseModel" (135 : Nat) (100 : Int64) ∈ tbl := tb_in (List.mem_append_right _ (List.mem_of_getElem? (i := 824) (by decide +kernel))) (by decide +kernel)
theorem tw_825 : Cond.methodLink "NotedHouseLaw" (87 : Nat) ⟨"NotedHouseModel", "kind", "(II)I"⟩ ∈ tbl := tb_in (List.mem_append_right _ (List.mem_of_getElem? (i := 825) (by decide +kernel))) (by decide +kernel)
theorem tw_826 : Cond.instanceMethod ⟨"NotedHouseModel", "kind", "(II)I"⟩ ∈ tbl := tb_in (List.mem_append_right _ (List.mem_of_getElem? (i := 826) (by decide +kernel))) (by decide +kernel)
theorem tw_827 : Cond.selects "NotedHouseModel" ⟨"NotedHouseModel", "kind", "(II)I"⟩ ⟨"NotedHouseModel", "kind", "(II)I"⟩ ∈ tbl := tb_in (List.mem_append_right _ (List.mem_of_getElem? (i := 827) (by decide +kernel))) (by decide +kernel)
theorem tw_828 : Cond.code ⟨"NotedHouseModel", "kind", "(II)I"⟩ prog_6_method_45_code (7 : Nat) (Option.some FieldType.int) ∈ tbl := tb_in (List.mem_append_right _ (List.mem_of_getElem? (i := 828) (by decide +kernel))) (by decide +kernel)
theorem tw_829 : Cond.methodLink "NotedHouseLaw" (91 : Nat) ⟨"NotedHouseModel", "fresh", "(III)I"⟩ ∈ tbl := tb_in (List.mem_append_right _ (List.mem_of_getElem? (i := 829) (by decide +kernel))) (by decide +kernel)
theorem tw_830 : Cond.instanceMethod ⟨"NotedHouseModel", "fresh", "(III)I"⟩ ∈ tbl := tb_in (List.mem_append_right _ (List.mem_of_getElem? (i := 830) (by decide +kernel))) (by decide +kernel)
theorem tw_831 : Cond.selects "NotedHouseModel" ⟨"NotedHouseModel", "fresh", "(III)I"⟩ ⟨"NotedHouseModel", "fresh", "(III)I"⟩ ∈ tbl := tb_in (List.mem_append_right _ (List.mem_of_getElem? (i := 831) (by decide +kernel))) (by decide +kernel)
theorem tw_832 : Cond.code ⟨"NotedHouseModel", "fresh", "(III)I"⟩ prog_6_method_46_code (5 : Nat) (Option.some FieldType.int) ∈ tbl := tb_in (List.mem_append_right _ (List.mem_of_getElem? (i := 832) (by decide +kernel))) (by decide +kernel)
theorem tw_833 : Cond.methodLink "NotedHouseLaw" (95 : Nat) ⟨"NotedHouseModel", "cue", "(I)I"⟩ ∈ tbl := tb_in (List.mem_append_right _ (List.mem_of_getElem? (i := 833) (by decide +kernel))) (by decide +kernel)
theorem tw_834 : Cond.instanceMethod ⟨"NotedHouseModel", "cue", "(I)I"⟩ ∈ tbl := tb_in (List.mem_append_right _ (List.mem_of_getElem? (i := 834) (by decide +kernel))) (by decide +kernel)
theorem tw_835 : Cond.selects "NotedHouseModel" ⟨"NotedHouseModel", "cue", "(I)I"⟩ ⟨"NotedHouseModel", "cue", "(I)I"⟩ ∈ tbl := tb_in (List.mem_append_right _ (List.mem_of_getElem? (i := 835) (by decide +kernel))) (by decide +kernel)
theorem tw_836 : Cond.code ⟨"NotedHouseModel", "cue", "(I)I"⟩ prog_6_method_47_code (6 : Nat) (Option.some FieldType.int) ∈ tbl := tb_in (List.mem_append_right _ (List.mem_of_getElem? (i := 836) (by decide +kernel))) (by decide +kernel)
theorem tw_837 : Cond.constantLong "NotedHouseModel" (152 : Nat) (60 : Int64) ∈ tbl := tb_in (List.mem_append_right _ (List.mem_of_getElem? (i := 837) (by decide +kernel))) (by decide +kernel)
theorem tw_838 : Cond.constant "NotedHouseModel" (154 : Nat) (-100000 : Int32) ∈ tbl := tb_in (List.mem_append_right _ (List.mem_of_getElem? (i := 838) (by decide +kernel))) (by decide +kernel)
theorem tw_839 : Cond.methodLink "NotedHouseLaw" (99 : Nat) ⟨"NotedHouseModel", "doze", "(I)I"⟩ ∈ tbl := tb_in (List.mem_append_right _ (List.mem_of_getElem? (i := 839) (by decide +kernel))) (by decide +kernel)
theorem tw_840 : Cond.instanceMethod ⟨"NotedHouseModel", "doze", "(I)I"⟩ ∈ tbl := tb_in (List.mem_append_right _ (List.mem_of_getElem? (i := 840) (by decide +kernel))) (by decide +kernel)
theorem tw_841 : Cond.selects "NotedHouseModel" ⟨"NotedHouseModel", "doze", "(I)I"⟩ ⟨"NotedHouseModel", "doze", "(I)I"⟩ ∈ tbl := tb_in (List.mem_append_right _ (List.mem_of_getElem? (i := 841) (by decide +kernel))) (by decide +kernel)
theorem tw_842 : Cond.code ⟨"NotedHouseModel", "doze", "(I)I"⟩ prog_6_method_48_code (6 : Nat) (Option.some FieldType.int) ∈ tbl := tb_in (List.mem_append_right _ (List.mem_of_getElem? (i := 842) (by decide +kernel))) (by decide +kernel)
theorem tw_843 : Cond.constant "NotedHouseModel" (155 : Nat) (100000 : Int32) ∈ tbl := tb_in (List.mem_append_right _ (List.mem_of_getElem? (i := 843) (by decide +kernel))) (by decide +kernel)
theorem tw_844 : Cond.methodLink "NotedHouseLaw" (103 : Nat) ⟨"NotedHouseModel", "tense", "(II)I"⟩ ∈ tbl := tb_in (List.mem_append_right _ (List.mem_of_getElem? (i := 844) (by decide +kernel))) (by decide +kernel)
theorem tw_845 : Cond.instanceMethod ⟨"NotedHouseModel", "tense", "(II)I"⟩ ∈ tbl := tb_in (List.mem_append_right _ (List.mem_of_getElem? (i := 845) (by decide +kernel))) (by decide +kernel)
theorem tw_846 : Cond.selects "NotedHouseModel" ⟨"NotedHouseModel", "tense", "(II)I"⟩ ⟨"NotedHouseModel", "tense", "(II)I"⟩ ∈ tbl := tb_in (List.mem_append_right _ (List.mem_of_getElem? (i := 846) (by decide +kernel))) (by decide +kernel)
theorem tw_847 : Cond.code ⟨"NotedHouseModel", "tense", "(II)I"⟩ prog_6_method_49_code (5 : Nat) (Option.some FieldType.int) ∈ tbl := tb_in (List.mem_append_right _ (List.mem_of_getElem? (i := 847) (by decide +kernel))) (by decide +kernel)
theorem tw_848 : Cond.methodLink "NotedHouseLaw" (107 : Nat) ⟨"NotedHouseModel", "best", "(I)I"⟩ ∈ tbl := tb_in (List.mem_append_right _ (List.mem_of_getElem? (i := 848) (by decide +kernel))) (by decide +kernel)
theorem tw_849 : Cond.instanceMethod ⟨"NotedHouseModel", "best", "(I)I"⟩ ∈ tbl := tb_in (List.mem_append_right _ (List.mem_of_getElem? (i := 849) (by decide +kernel))) (by decide +kernel)
theorem tw_850 : Cond.selects "NotedHouseModel" ⟨"NotedHouseModel", "best", "(I)I"⟩ ⟨"NotedHouseModel", "best", "(I)I"⟩ ∈ tbl := tb_in (List.mem_append_right _ (List.mem_of_getElem? (i := 850) (by decide +kernel))) (by decide +kernel)
theorem tw_851 : Cond.code ⟨"NotedHouseModel", "best", "(I)I"⟩ prog_6_method_50_code (4 : Nat) (Option.some FieldType.int) ∈ tbl := tb_in (List.mem_append_right _ (List.mem_of_getElem? (i := 851) (by decide +kernel))) (by decide +kernel)
theorem tw_852 : Cond.methodLink "NotedHouseLaw" (111 : Nat) ⟨"NotedHouseModel", "feed", "(II)I"⟩ ∈ tbl := tb_in (List.mem_append_right _ (List.mem_of_getElem? (i := 852) (by decide +kernel))) (by decide +kernel)
theorem tw_853 : Cond.instanceMethod ⟨"NotedHouseModel", "feed", "(II)I"⟩ ∈ tbl := tb_in (List.mem_append_right _ (List.mem_of_getElem? (i := 853) (by decide +kernel))) (by decide +kernel)
theorem tw_854 : Cond.selects "NotedHouseModel" ⟨"NotedHouseModel", "feed", "(II)I"⟩ ⟨"NotedHouseModel", "feed", "(II)I"⟩ ∈ tbl := tb_in (List.mem_append_right _ (List.mem_of_getElem? (i := 854) (by decide +kernel))) (by decide +kernel)
theorem tw_855 : Cond.code ⟨"NotedHouseModel", "feed", "(II)I"⟩ prog_6_method_51_code (4 : Nat) (Option.some FieldType.int) ∈ tbl := tb_in (List.mem_append_right _ (List.mem_of_getElem? (i := 855) (by decide +kernel))) (by decide +kernel)
theorem tw_856 : Cond.methodLink "NotedHouseLaw" (116 : Nat) ⟨"NotedHouseModel", "wipe", "()I"⟩ ∈ tbl := tb_in (List.mem_append_right _ (List.mem_of_getElem? (i := 856) (by decide +kernel))) (by decide +kernel)
theorem tw_857 : Cond.instanceMethod ⟨"NotedHouseModel", "wipe", "()I"⟩ ∈ tbl := tb_in (List.mem_append_right _ (List.mem_of_getElem? (i := 857) (by decide +kernel))) (by decide +kernel)
theorem tw_858 : Cond.selects "NotedHouseModel" ⟨"NotedHouseModel", "wipe", "()I"⟩ ⟨"NotedHouseModel", "wipe", "()I"⟩ ∈ tbl := tb_in (List.mem_append_right _ (List.mem_of_getElem? (i := 858) (by decide +kernel))) (by decide +kernel)
theorem tw_859 : Cond.code ⟨"NotedHouseModel", "wipe", "()I"⟩ prog_6_method_52_code (2 : Nat) (Option.some FieldType.int) ∈ tbl := tb_in (List.mem_append_right _ (List.mem_of_getElem? (i := 859) (by decide +kernel))) (by decide +kernel)
theorem tw_860 : Cond.methodLink "NotedHouseLaw" (120 : Nat) ⟨"NotedHouseModel", "evening", "()I"⟩ ∈ tbl := tb_in (List.mem_append_right _ (List.mem_of_getElem? (i := 860) (by decide +kernel))) (by decide +kernel)
theorem tw_861 : Cond.instanceMethod ⟨"NotedHouseModel", "evening", "()I"⟩ ∈ tbl := tb_in (List.mem_append_right _ (List.mem_of_getElem? (i := 861) (by decide +kernel))) (by decide +kernel)
theorem tw_862 : Cond.selects "NotedHouseModel" ⟨"NotedHouseModel", "evening", "()I"⟩ ⟨"NotedHouseModel", "evening", "()I"⟩ ∈ tbl := tb_in (List.mem_append_right _ (List.mem_of_getElem? (i := 862) (by decide +kernel))) (by decide +kernel)
theorem tw_863 : Cond.code ⟨"NotedHouseModel", "evening", "()I"⟩ prog_6_method_68_code (2 : Nat) (Option.some FieldType.int) ∈ tbl := tb_in (List.mem_append_right _ (List.mem_of_getElem? (i := 863) (by decide +kernel))) (by decide +kernel)
theorem tw_864 : Cond.methodLink "NotedHouseModel" (260 : Nat) ⟨"NotedHouseModel", "items", "()I"⟩ ∈ tbl := tb_in (List.mem_append_right _ (List.mem_of_getElem? (i := 864) (by decide +kernel))) (by decide +kernel)
theorem tw_865 : Cond.privateMethod ⟨"NotedHouseModel", "items", "()I"⟩ ∈ tbl := tb_in (List.mem_append_right _ (List.mem_of_getElem? (i := 865) (by decide +kernel))) (by decide +kernel)
theorem tw_866 : Cond.instanceMethod ⟨"NotedHouseModel", "items", "()I"⟩ ∈ tbl := tb_in (List.mem_append_right _ (List.mem_of_getElem? (i := 866) (by decide +kernel))) (by decide +kernel)
theorem tw_867 : Cond.code ⟨"NotedHouseModel", "items", "()I"⟩ prog_6_method_67_code (2 : Nat) (Option.some FieldType.int) ∈ tbl := tb_in (List.mem_append_right _ (List.mem_of_getElem? (i := 867) (by decide +kernel))) (by decide +kernel)
theorem tw_868 : Cond.methodLink "NotedHouseModel" (224 : Nat) ⟨"NotedHouseModel", "next", "()V"⟩ ∈ tbl := tb_in (List.mem_append_right _ (List.mem_of_getElem? (i := 868) (by decide +kernel))) (by decide +kernel)
theorem tw_869 : Cond.privateMethod ⟨"NotedHouseModel", "next", "()V"⟩ ∈ tbl := tb_in (List.mem_append_right _ (List.mem_of_getElem? (i := 869) (by decide +kernel))) (by decide +kernel)
theorem tw_870 : Cond.instanceMethod ⟨"NotedHouseModel", "next", "()V"⟩ ∈ tbl := tb_in (List.mem_append_right _ (List.mem_of_getElem? (i := 870) (by decide +kernel))) (by decide +kernel)
theorem tw_871 : Cond.code ⟨"NotedHouseModel", "next", "()V"⟩ prog_6_method_56_code (2 : Nat) none ∈ tbl := tb_in (List.mem_append_right _ (List.mem_of_getElem? (i := 871) (by decide +kernel))) (by decide +kernel)
theorem tw_872 : Cond.methodLink "NotedHouseModel" (163 : Nat) ⟨"NotedHouseModel", "byteAt", "(I)I"⟩ ∈ tbl := tb_in (List.mem_append_right _ (List.mem_of_getElem? (i := 872) (by decide +kernel))) (by decide +kernel)
theorem tw_873 : Cond.privateMethod ⟨"NotedHouseModel", "byteAt", "(I)I"⟩ ∈ tbl := tb_in (List.mem_append_right _ (List.mem_of_getElem? (i := 873) (by decide +kernel))) (by decide +kernel)
theorem tw_874 : Cond.instanceMethod ⟨"NotedHouseModel", "byteAt", "(I)I"⟩ ∈ tbl := tb_in (List.mem_append_right _ (List.mem_of_getElem? (i := 874) (by decide +kernel))) (by decide +kernel)
theorem tw_875 : Cond.code ⟨"NotedHouseModel", "byteAt", "(I)I"⟩ prog_6_method_55_code (2 : Nat) (Option.some FieldType.int) ∈ tbl := tb_in (List.mem_append_right _ (List.mem_of_getElem? (i := 875) (by decide +kernel))) (by decide +kernel)
theorem tw_876 : Cond.methodLink "NotedHouseModel" (176 : Nat) ⟨"NotedHouseModel", "letter", "(I)I"⟩ ∈ tbl := tb_in (List.mem_append_right _ (List.mem_of_getElem? (i := 876) (by decide +kernel))) (by decide +kernel)
theorem tw_877 : Cond.static ⟨"NotedHouseModel", "letter", "(I)I"⟩ ∈ tbl := tb_in (List.mem_append_right _ (List.mem_of_getElem? (i := 877) (by decide +kernel))) (by decide +kernel)
theorem tw_878 : Cond.code ⟨"NotedHouseModel", "letter", "(I)I"⟩ prog_6_method_53_code (1 : Nat) (Option.some FieldType.int) ∈ tbl := tb_in (List.mem_append_right _ (List.mem_of_getElem? (i := 878) (by decide +kernel))) (by decide +kernel)
theorem tw_879 : Cond.constantLong "NotedHouseModel" (179 : Nat) (100000000000000000 : Int64) ∈ tbl := tb_in (List.mem_append_right _ (List.mem_of_getElem? (i := 879) (by decide +kernel))) (by decide +kernel)
theorem tw_880 : Cond.constantLong "NotedHouseModel" (181 : Nat) (27 : Int64) ∈ tbl := tb_in (List.mem_append_right _ (List.mem_of_getElem? (i := 880) (by decide +kernel))) (by decide +kernel)
theorem tw_881 : Cond.methodLink "NotedHouseModel" (183 : Nat) ⟨"NotedHouseModel", "isDigit", "(I)Z"⟩ ∈ tbl := tb_in (List.mem_append_right _ (List.mem_of_getElem? (i := 881) (by decide +kernel))) (by decide +kernel)
theorem tw_882 : Cond.static ⟨"NotedHouseModel", "isDigit", "(I)Z"⟩ ∈ tbl := tb_in (List.mem_append_right _ (List.mem_of_getElem? (i := 882) (by decide +kernel))) (by decide +kernel)
theorem tw_883 : Cond.code ⟨"NotedHouseModel", "isDigit", "(I)Z"⟩ prog_6_method_54_code (1 : Nat) (Option.some FieldType.boolean) ∈ tbl := tb_in (List.mem_append_right _ (List.mem_of_getElem? (i := 883) (by decide +kernel))) (by decide +kernel)
theorem tw_884 : Cond.constantLong "NotedHouseModel" (186 : Nat) (999 : Int64) ∈ tbl := tb_in (List.mem_append_right _ (List.mem_of_getElem? (i := 884) (by decide +kernel))) (by decide +kernel)
theorem tw_885 : Cond.constantLong "NotedHouseModel" (188 : Nat) (10 : Int64) ∈ tbl := tb_in (List.mem_append_right _ (List.mem_of_getElem? (i := 885) (by decide +kernel))) (by decide +kernel)
theorem tw_886 : Cond.constantLong "NotedHouseModel" (190 : Nat) (48 : Int64) ∈ tbl := tb_in (List.mem_append_right _ (List.mem_of_getElem? (i := 886) (by decide +kernel))) (by decide +kernel)
theorem tw_887 : Cond.methodLink "NotedHouseModel" (257 : Nat) ⟨"NotedHouseModel", "item", "()V"⟩ ∈ tbl := tb_in (List.mem_append_right _ (List.mem_of_getElem? (i := 887) (by decide +kernel))) (by decide +kernel)
theorem tw_888 : Cond.privateMethod ⟨"NotedHouseModel", "item", "()V"⟩ ∈ tbl := tb_in (List.mem_append_right _ (List.mem_of_getElem? (i := 888) (by decide +kernel))) (by decide +kernel)
theorem tw_889 : Cond.instanceMethod ⟨"NotedHouseModel", "item", "()V"⟩ ∈ tbl := tb_in (List.mem_append_right _ (List.mem_of_getElem? (i := 889) (by decide +kernel))) (by decide +kernel)
theorem tw_890 : Cond.code ⟨"NotedHouseModel", "item", "()V"⟩ prog_6_method_66_code (2 : Nat) none ∈ tbl := tb_in (List.mem_append_right _ (List.mem_of_getElem? (i := 890) (by decide +kernel))) (by decide +kernel)
theorem tw_891 : Cond.methodLink "NotedHouseModel" (236 : Nat) ⟨"NotedHouseModel", "kindHere", "()I"⟩ ∈ tbl := tb_in (List.mem_append_right _ (List.mem_of_getElem? (i := 891) (by decide +kernel))) (by decide +kernel)
theorem tw_892 : Cond.privateMethod ⟨"NotedHouseModel", "kindHere", "()I"⟩ ∈ tbl := tb_in (List.mem_append_right _ (List.mem_of_getElem? (i := 892) (by decide +kernel))) (by decide +kernel)
theorem tw_893 : Cond.instanceMethod ⟨"NotedHouseModel", "kindHere", "()I"⟩ ∈ tbl := tb_in (List.mem_append_right _ (List.mem_of_getElem? (i := 893) (by decide +kernel))) (by decide +kernel)
theorem tw_894 : Cond.code ⟨"NotedHouseModel", "kindHere", "()I"⟩ prog_6_method_59_code (1 : Nat) (Option.some FieldType.int) ∈ tbl := tb_in (List.mem_append_right _ (List.mem_of_getElem? (i := 894) (by decide +kernel))) (by decide +kernel)
theorem tw_895 : Cond.constantLong "NotedHouseModel" (195 : Nat) (277820595 : Int64) ∈ tbl := tb_in (List.mem_append_right _ (List.mem_of_getElem? (i := 895) (by decide +kernel))) (by decide +kernel)
theorem tw_896 : Cond.methodLink "NotedHouseModel" (197 : Nat) ⟨"NotedHouseModel", "isWord", "(J)Z"⟩ ∈ tbl := tb_in (List.mem_append_right _ (List.mem_of_getElem? (i := 896) (by decide +kernel))) (by decide +kernel)
theorem tw_897 : Cond.privateMethod ⟨"NotedHouseModel", "isWord", "(J)Z"⟩ ∈ tbl := tb_in (List.mem_append_right _ (List.mem_of_getElem? (i := 897) (by decide +kernel))) (by decide +kernel)
theorem tw_898 : Cond.instanceMethod ⟨"NotedHouseModel", "isWord", "(J)Z"⟩ ∈ tbl := tb_in (List.mem_append_right _ (List.mem_of_getElem? (i := 898) (by decide +kernel))) (by decide +kernel)
theorem tw_899 : Cond.code ⟨"NotedHouseModel", "isWord", "(J)Z"⟩ prog_6_method_58_code (3 : Nat) (Option.some FieldType.boolean) ∈ tbl := tb_in (List.mem_append_right _ (List.mem_of_getElem? (i := 899) (by decide +kernel))) (by decide +kernel)
theorem tw_900 : Cond.constantLong "NotedHouseModel" (201 : Nat) (1388799099 : Int64) ∈ tbl := tb_in (List.mem_append_right _ (List.mem_of_getElem? (i := 900) (by decide +kernel))) (by decide +kernel)
theorem tw_901 : Cond.constantLong "NotedHouseModel" (203 : Nat) (332792298 : Int64) ∈ tbl := tb_in (List.mem_append_right _ (List.mem_of_getElem? (i := 901) (by decide +kernel))) (by decide +kernel)
theorem tw_902 : Cond.constantLong "NotedHouseModel" (205 : Nat) (7535943612 : Int64) ∈ tbl := tb_in (List.mem_append_right _ (List.mem_of_getElem? (i := 902) (by decide +kernel))) (by decide +kernel)
theorem tw_903 : Cond.constantLong "NotedHouseModel" (207 : Nat) (49456661 : Int64) ∈ tbl := tb_in (List.mem_append_right _ (List.mem_of_getElem? (i := 903) (by decide +kernel))) (by decide +kernel)
theorem tw_904 : Cond.constantLong "NotedHouseModel" (209 : Nat) (12403634 : Int64) ∈ tbl := tb_in (List.mem_append_right _ (List.mem_of_getElem? (i := 904) (by decide +kernel))) (by decide +kernel)
theorem tw_905 : Cond.methodLink "NotedHouseModel" (239 : Nat) ⟨"NotedHouseModel", "personHere", "(I)V"⟩ ∈ tbl := tb_in (List.mem_append_right _ (List.mem_of_getElem? (i := 905) (by decide +kernel))) (by decide +kernel)
theorem tw_906 : Cond.privateMethod ⟨"NotedHouseModel", "personHere", "(I)V"⟩ ∈ tbl := tb_in (List.mem_append_right _ (List.mem_of_getElem? (i := 906) (by decide +kernel))) (by decide +kernel)
theorem tw_907 : Cond.instanceMethod ⟨"NotedHouseModel", "personHere", "(I)V"⟩ ∈ tbl := tb_in (List.mem_append_right _ (List.mem_of_getElem? (i := 907) (by decide +kernel))) (by decide +kernel)
theorem tw_908 : Cond.code ⟨"NotedHouseModel", "personHere", "(I)V"⟩ prog_6_method_62_code (3 : Nat) none ∈ tbl := tb_in (List.mem_append_right _ (List.mem_of_getElem? (i := 908) (by decide +kernel))) (by decide +kernel)
theorem tw_909 : Cond.methodLink "NotedHouseModel" (221 : Nat) ⟨"NotedHouseModel", "wrongHere", "()V"⟩ ∈ tbl := tb_in (List.mem_append_right _ (List.mem_of_getElem? (i := 909) (by decide +kernel))) (by decide +kernel)
theorem tw_910 : Cond.privateMethod ⟨"NotedHouseModel", "wrongHere", "()V"⟩ ∈ tbl := tb_in (List.mem_append_right _ (List.mem_of_getElem? (i := 910) (by decide +kernel))) (by decide +kernel)
theorem tw_911 : Cond.instanceMethod ⟨"NotedHouseModel", "wrongHere", "()V"⟩ ∈ tbl := tb_in (List.mem_append_right _ (List.mem_of_getElem? (i := 911) (by decide +kernel))) (by decide +kernel)
theorem tw_912 : Cond.code ⟨"NotedHouseModel", "wrongHere", "()V"⟩ prog_6_method_57_code (1 : Nat) none ∈ tbl := tb_in (List.mem_append_right _ (List.mem_of_getElem? (i := 912) (by decide +kernel))) (by decide +kernel)
theorem tw_913 : Cond.constantLong "NotedHouseModel" (227 : Nat) (3547106 : Int64) ∈ tbl := tb_in (List.mem_append_right _ (List.mem_of_getElem? (i := 913) (by decide +kernel))) (by decide +kernel)
theorem tw_914 : Cond.methodLink "NotedHouseModel" (229 : Nat) ⟨"NotedHouseModel", "numberHere", "(II)I"⟩ ∈ tbl := tb_in (List.mem_append_right _ (List.mem_of_getElem? (i := 914) (by decide +kernel))) (by decide +kernel)
theorem tw_915 : Cond.privateMethod ⟨"NotedHouseModel", "numberHere", "(II)I"⟩ ∈ tbl := tb_in (List.mem_append_right _ (List.mem_of_getElem? (i := 915) (by decide +kernel))) (by decide +kernel)
theorem tw_916 : Cond.instanceMethod ⟨"NotedHouseModel", "numberHere", "(II)I"⟩ ∈ tbl := tb_in (List.mem_append_right _ (List.mem_of_getElem? (i := 916) (by decide +kernel))) (by decide +kernel)
theorem tw_917 : Cond.code ⟨"NotedHouseModel", "numberHere", "(II)I"⟩ prog_6_method_61_code (4 : Nat) (Option.some FieldType.int) ∈ tbl := tb_in (List.mem_append_right _ (List.mem_of_getElem? (i := 917) (by decide +kernel))) (by decide +kernel)
theorem tw_918 : Cond.constantLong "NotedHouseModel" (242 : Nat) (2759 : Int64) ∈ tbl := tb_in (List.mem_append_right _ (List.mem_of_getElem? (i := 918) (by decide +kernel))) (by decide +kernel)
theorem tw_919 : Cond.methodLink "NotedHouseModel" (244 : Nat) ⟨"NotedHouseModel", "cueItem", "()V"⟩ ∈ tbl := tb_in (List.mem_append_right _ (List.mem_of_getElem? (i := 919) (by decide +kernel))) (by decide +kernel)
theorem tw_920 : Cond.privateMethod ⟨"NotedHouseModel", "cueItem", "()V"⟩ ∈ tbl := tb_in (List.mem_append_right _ (List.mem_of_getElem? (i := 920) (by decide +kernel))) (by decide +kernel)
theorem tw_921 : Cond.instanceMethod ⟨"NotedHouseModel", "cueItem", "()V"⟩ ∈ tbl := tb_in (List.mem_append_right _ (List.mem_of_getElem? (i := 921) (by decide +kernel))) (by decide +kernel)
theorem tw_922 : Cond.code ⟨"NotedHouseModel", "cueItem", "()V"⟩ prog_6_method_63_code (3 : Nat) none ∈ tbl := tb_in (List.mem_append_right _ (List.mem_of_getElem? (i := 922) (by decide +kernel))) (by decide +kernel)
theorem tw_923 : Cond.methodLink "NotedHouseModel" (232 : Nat) ⟨"NotedHouseModel", "cueHere", "()I"⟩ ∈ tbl := tb_in (List.mem_append_right _ (List.mem_of_getElem? (i := 923) (by decide +kernel))) (by decide +kernel)
theorem tw_924 : Cond.privateMethod ⟨"NotedHouseModel", "cueHere", "()I"⟩ ∈ tbl := tb_in (List.mem_append_right _ (List.mem_of_getElem? (i := 924) (by decide +kernel))) (by decide +kernel)
theorem tw_925 : Cond.instanceMethod ⟨"NotedHouseModel", "cueHere", "()I"⟩ ∈ tbl := tb_in (List.mem_append_right _ (List.mem_of_getElem? (i := 925) (by decide +kernel))) (by decide +kernel)
theorem tw_926 : Cond.code ⟨"NotedHouseModel", "cueHere", "()I"⟩ prog_6_method_60_code (1 : Nat) (Option.some FieldType.int) ∈ tbl := tb_in (List.mem_append_right _ (List.mem_of_getElem? (i := 926) (by decide +kernel))) (by decide +kernel)
theorem tw_927 : Cond.constantLong "NotedHouseModel" (211 : Nat) (10497936 : Int64) ∈ tbl := tb_in (List.mem_append_right _ (List.mem_of_getElem? (i := 927) (by decide +kernel))) (by decide +kernel)
theorem tw_928 : Cond.constantLong "NotedHouseModel" (213 : Nat) (14258 : Int64) ∈ tbl := tb_in (List.mem_append_right _ (List.mem_of_getElem? (i := 928) (by decide +kernel))) (by decide +kernel)
theorem tw_929 : Cond.constantLong "NotedHouseModel" (215 : Nat) (6412481 : Int64) ∈ tbl := tb_in (List.mem_append_right _ (List.mem_of_getElem? (i := 929) (by decide +kernel))) (by decide +kernel)
theorem tw_930 : Cond.constantLong "NotedHouseModel" (217 : Nat) (1905074 : Int64) ∈ tbl := tb_in (List.mem_append_right _ (List.mem_of_getElem? (i := 930) (by decide +kernel))) (by decide +kernel)
theorem tw_931 : Cond.constantLong "NotedHouseModel" (219 : Nat) (67840 : Int64) ∈ tbl := tb_in (List.mem_append_right _ (List.mem_of_getElem? (i := 931) (by decide +kernel))) (by decide +kernel)
theorem tw_932 : Cond.constantLong "NotedHouseModel" (247 : Nat) (10737959 : Int64) ∈ tbl := tb_in (List.mem_append_right _ (List.mem_of_getElem? (i := 932) (by decide +kernel))) (by decide +kernel)
theorem tw_933 : Cond.methodLink "NotedHouseModel" (249 : Nat) ⟨"NotedHouseModel", "tenseItem", "()V"⟩ ∈ tbl := tb_in (List.mem_append_right _ (List.mem_of_getElem? (i := 933) (by decide +kernel))) (by decide +kernel)
theorem tw_934 : Cond.privateMethod ⟨"NotedHouseModel", "tenseItem", "()V"⟩ ∈ tbl := tb_in (List.mem_append_right _ (List.mem_of_getElem? (i := 934) (by decide +kernel))) (by decide +kernel)
theorem tw_935 : Cond.instanceMethod ⟨"NotedHouseModel", "tenseItem", "()V"⟩ ∈ tbl := tb_in (List.mem_append_right _ (List.mem_of_getElem? (i := 935) (by decide +kernel))) (by decide +kernel)
theorem tw_936 : Cond.code ⟨"NotedHouseModel", "tenseItem", "()V"⟩ prog_6_method_64_code (3 : Nat) none ∈ tbl := tb_in (List.mem_append_right _ (List.mem_of_getElem? (i := 936) (by decide +kernel))) (by decide +kernel)
theorem tw_937 : Cond.constantLong "NotedHouseModel" (252 : Nat) (390787 : Int64) ∈ tbl := tb_in (List.mem_append_right _ (List.mem_of_getElem? (i := 937) (by decide +kernel))) (by decide +kernel)
theorem tw_938 : Cond.methodLink "NotedHouseModel" (254 : Nat) ⟨"NotedHouseModel", "swapItem", "()V"⟩ ∈ tbl := tb_in (List.mem_append_right _ (List.mem_of_getElem? (i := 938) (by decide +kernel))) (by decide +kernel)
theorem tw_939 : Cond.privateMethod ⟨"NotedHouseModel", "swapItem", "()V"⟩ ∈ tbl := tb_in (List.mem_append_right _ (List.mem_of_getElem? (i := 939) (by decide +kernel))) (by decide +kernel)
theorem tw_940 : Cond.instanceMethod ⟨"NotedHouseModel", "swapItem", "()V"⟩ ∈ tbl := tb_in (List.mem_append_right _ (List.mem_of_getElem? (i := 940) (by decide +kernel))) (by decide +kernel)
theorem tw_941 : Cond.code ⟨"NotedHouseModel", "swapItem", "()V"⟩ prog_6_method_65_code (3 : Nat) none ∈ tbl := tb_in (List.mem_append_right _ (List.mem_of_getElem? (i := 941) (by decide +kernel))) (by decide +kernel)
theorem tw_942 : Cond.methodLink "NotedHouseLaw" (124 : Nat) ⟨"NotedHouseModel", "sheet", "(III)I"⟩ ∈ tbl := tb_in (List.mem_append_right _ (List.mem_of_getElem? (i := 942) (by decide +kernel))) (by decide +kernel)
theorem tw_943 : Cond.instanceMethod ⟨"NotedHouseModel", "sheet", "(III)I"⟩ ∈ tbl := tb_in (List.mem_append_right _ (List.mem_of_getElem? (i := 943) (by decide +kernel))) (by decide +kernel)
theorem tw_944 : Cond.selects "NotedHouseModel" ⟨"NotedHouseModel", "sheet", "(III)I"⟩ ⟨"NotedHouseModel", "sheet", "(III)I"⟩ ∈ tbl := tb_in (List.mem_append_right _ (List.mem_of_getElem? (i := 944) (by decide +kernel))) (by decide +kernel)
theorem tw_945 : Cond.code ⟨"NotedHouseModel", "sheet", "(III)I"⟩ prog_6_method_70_code (5 : Nat) (Option.some FieldType.int) ∈ tbl := tb_in (List.mem_append_right _ (List.mem_of_getElem? (i := 945) (by decide +kernel))) (by decide +kernel)
theorem tw_946 : Cond.methodLink "NotedHouseModel" (265 : Nat) ⟨"NotedHouseModel", "isSheet", "(I)Z"⟩ ∈ tbl := tb_in (List.mem_append_right _ (List.mem_of_getElem? (i := 946) (by decide +kernel))) (by decide +kernel)
theorem tw_947 : Cond.static ⟨"NotedHouseModel", "isSheet", "(I)Z"⟩ ∈ tbl := tb_in (List.mem_append_right _ (List.mem_of_getElem? (i := 947) (by decide +kernel))) (by decide +kernel)
theorem tw_948 : Cond.code ⟨"NotedHouseModel", "isSheet", "(I)Z"⟩ prog_6_method_69_code (1 : Nat) (Option.some FieldType.boolean) ∈ tbl := tb_in (List.mem_append_right _ (List.mem_of_getElem? (i := 948) (by decide +kernel))) (by decide +kernel)
theorem tw_949 : Cond.constantLong "NotedHouseModel" (263 : Nat) (3 : Int64) ∈ tbl := tb_in (List.mem_append_right _ (List.mem_of_getElem? (i := 949) (by decide +kernel))) (by decide +kernel)
theorem tw_950 : Cond.methodLink "NotedHouseLaw" (131 : Nat) ⟨"NotedHouseModel", "write", "(IIJ)J"⟩ ∈ tbl := tb_in (List.mem_append_right _ (List.mem_of_getElem? (i := 950) (by decide +kernel))) (by decide +kernel)
theorem tw_951 : Cond.instanceMethod ⟨"NotedHouseModel", "write", "(IIJ)J"⟩ ∈ tbl := tb_in (List.mem_append_right _ (List.mem_of_getElem? (i := 951) (by decide +kernel))) (by decide +kernel)
theorem tw_952 : Cond.selects "NotedHouseModel" ⟨"NotedHouseModel", "write", "(IIJ)J"⟩ ⟨"NotedHouseModel", "write", "(IIJ)J"⟩ ∈ tbl := tb_in (List.mem_append_right _ (List.mem_of_getElem? (i := 952) (by decide +kernel))) (by decide +kernel)
theorem tw_953 : Cond.code ⟨"NotedHouseModel", "write", "(IIJ)J"⟩ prog_6_method_73_code (8 : Nat) (Option.some FieldType.long) ∈ tbl := tb_in (List.mem_append_right _ (List.mem_of_getElem? (i := 953) (by decide +kernel))) (by decide +kernel)
theorem tw_954 : Cond.methodLink "NotedHouseModel" (268 : Nat) ⟨"NotedHouseModel", "whyNone", "(I)I"⟩ ∈ tbl := tb_in (List.mem_append_right _ (List.mem_of_getElem? (i := 954) (by decide +kernel))) (by decide +kernel)
theorem tw_955 : Cond.privateMethod ⟨"NotedHouseModel", "whyNone", "(I)I"⟩ ∈ tbl := tb_in (List.mem_append_right _ (List.mem_of_getElem? (i := 955) (by decide +kernel))) (by decide +kernel)
theorem tw_956 : Cond.instanceMethod ⟨"NotedHouseModel", "whyNone", "(I)I"⟩ ∈ tbl := tb_in (List.mem_append_right _ (List.mem_of_getElem? (i := 956) (by decide +kernel))) (by decide +kernel)
theorem tw_957 : Cond.code ⟨"NotedHouseModel", "whyNone", "(I)I"⟩ prog_6_method_71_code (2 : Nat) (Option.some FieldType.int) ∈ tbl := tb_in (List.mem_append_right _ (List.mem_of_getElem? (i := 957) (by decide +kernel))) (by decide +kernel)
theorem tw_958 : Cond.methodLink "NotedHouseModel" (271 : Nat) ⟨"NotedHouseModel", "puts", "(IIJ)V"⟩ ∈ tbl := tb_in (List.mem_append_right _ (List.mem_of_getElem? (i := 958) (by decide +kernel))) (by decide +kernel)
theorem tw_959 : Cond.privateMethod ⟨"NotedHouseModel", "puts", "(IIJ)V"⟩ ∈ tbl := tb_in (List.mem_append_right _ (List.mem_of_getElem? (i := 959) (by decide +kernel))) (by decide +kernel)
theorem tw_960 : Cond.instanceMethod ⟨"NotedHouseModel", "puts", "(IIJ)V"⟩ ∈ tbl := tb_in (List.mem_append_right _ (List.mem_of_getElem? (i := 960) (by decide +kernel))) (by decide +kernel)
theorem tw_961 : Cond.code ⟨"NotedHouseModel", "puts", "(IIJ)V"⟩ prog_6_method_72_code (5 : Nat) none ∈ tbl := tb_in (List.mem_append_right _ (List.mem_of_getElem? (i := 961) (by decide +kernel))) (by decide +kernel)
theorem tw_962 : Cond.methodLink "NotedHouseLaw" (136 : Nat) ⟨"NotedHouseModel", "copy", "(IIIII)I"⟩ ∈ tbl := tb_in (List.mem_append_right _ (List.mem_of_getElem? (i := 962) (by decide +kernel))) (by decide +kernel)
theorem tw_963 : Cond.instanceMethod ⟨"NotedHouseModel", "copy", "(IIIII)I"⟩ ∈ tbl := tb_in (List.mem_append_right _ (List.mem_of_getElem? (i := 963) (by decide +kernel))) (by decide +kernel)
theorem tw_964 : Cond.selects "NotedHouseModel" ⟨"NotedHouseModel", "copy", "(IIIII)I"⟩ ⟨"NotedHouseModel", "copy", "(IIIII)I"⟩ ∈ tbl := tb_in (List.mem_append_right _ (List.mem_of_getElem? (i := 964) (by decide +kernel))) (by decide +kernel)
theorem tw_965 : Cond.code ⟨"NotedHouseModel", "copy", "(IIIII)I"⟩ prog_6_method_74_code (7 : Nat) (Option.some FieldType.int) ∈ tbl := tb_in (List.mem_append_right _ (List.mem_of_getElem? (i := 965) (by decide +kernel))) (by decide +kernel)
theorem tw_966 : Cond.methodLink "NotedHouseLaw" (140 : Nat) ⟨"NotedHouseModel", "lays", "(I)I"⟩ ∈ tbl := tb_in (List.mem_append_right _ (List.mem_of_getElem? (i := 966) (by decide +kernel))) (by decide +kernel)
theorem tw_967 : Cond.instanceMethod ⟨"NotedHouseModel", "lays", "(I)I"⟩ ∈ tbl := tb_in (List.mem_append_right _ (List.mem_of_getElem? (i := 967) (by decide +kernel))) (by decide +kernel)
theorem tw_968 : Cond.selects "NotedHouseModel" ⟨"NotedHouseModel", "lays", "(I)I"⟩ ⟨"NotedHouseModel", "lays", "(I)I"⟩ ∈ tbl := tb_in (List.mem_append_right _ (List.mem_of_getElem? (i := 968) (by decide +kernel))) (by decide +kernel)
theorem tw_969 : Cond.code ⟨"NotedHouseModel", "lays", "(I)I"⟩ prog_6_method_75_code (5 : Nat) (Option.some FieldType.int) ∈ tbl := tb_in (List.mem_append_right _ (List.mem_of_getElem? (i := 969) (by decide +kernel))) (by decide +kernel)
theorem tw_970 : Cond.methodLink "NotedHouseLaw" (144 : Nat) ⟨"NotedHouseModel", "book", "(II)I"⟩ ∈ tbl := tb_in (List.mem_append_right _ (List.mem_of_getElem? (i := 970) (by decide +kernel))) (by decide +kernel)
theorem tw_971 : Cond.instanceMethod ⟨"NotedHouseModel", "book", "(II)I"⟩ ∈ tbl := tb_in (List.mem_append_right _ (List.mem_of_getElem? (i := 971) (by decide +kernel))) (by decide +kernel)
theorem tw_972 : Cond.selects "NotedHouseModel" ⟨"NotedHouseModel", "book", "(II)I"⟩ ⟨"NotedHouseModel", "book", "(II)I"⟩ ∈ tbl := tb_in (List.mem_append_right _ (List.mem_of_getElem? (i := 972) (by decide +kernel))) (by decide +kernel)
theorem tw_973 : Cond.code ⟨"NotedHouseModel", "book", "(II)I"⟩ prog_6_method_76_code (5 : Nat) (Option.some FieldType.int) ∈ tbl := tb_in (List.mem_append_right _ (List.mem_of_getElem? (i := 973) (by decide +kernel))) (by decide +kernel)
theorem tw_974 : Cond.methodLink "NotedHouseLaw" (148 : Nat) ⟨"NotedHouseModel", "read", "(II)I"⟩ ∈ tbl := tb_in (List.mem_append_right _ (List.mem_of_getElem? (i := 974) (by decide +kernel))) (by decide +kernel)
theorem tw_975 : Cond.instanceMethod ⟨"NotedHouseModel", "read", "(II)I"⟩ ∈ tbl := tb_in (List.mem_append_right _ (List.mem_of_getElem? (i := 975) (by decide +kernel))) (by decide +kernel)
theorem tw_976 : Cond.selects "NotedHouseModel" ⟨"NotedHouseModel", "read", "(II)I"⟩ ⟨"NotedHouseModel", "read", "(II)I"⟩ ∈ tbl := tb_in (List.mem_append_right _ (List.mem_of_getElem? (i := 976) (by decide +kernel))) (by decide +kernel)
theorem tw_977 : Cond.code ⟨"NotedHouseModel", "read", "(II)I"⟩ prog_6_method_77_code (8 : Nat) (Option.some FieldType.int) ∈ tbl := tb_in (List.mem_append_right _ (List.mem_of_getElem? (i := 977) (by decide +kernel))) (by decide +kernel)
theorem tw_978 : Cond.methodLink "NotedHouseLaw" (152 : Nat) ⟨"NotedHouseModel", "image", "()I"⟩ ∈ tbl := tb_in (List.mem_append_right _ (List.mem_of_getElem? (i := 978) (by decide +kernel))) (by decide +kernel)
theorem tw_979 : Cond.instanceMethod ⟨"NotedHouseModel", "image", "()I"⟩ ∈ tbl := tb_in (List.mem_append_right _ (List.mem_of_getElem? (i := 979) (by decide +kernel))) (by decide +kernel)
theorem tw_980 : Cond.selects "NotedHouseModel" ⟨"NotedHouseModel", "image", "()I"⟩ ⟨"NotedHouseModel", "image", "()I"⟩ ∈ tbl := tb_in (List.mem_append_right _ (List.mem_of_getElem? (i := 980) (by decide +kernel))) (by decide +kernel)
theorem tw_981 : Cond.code ⟨"NotedHouseModel", "image", "()I"⟩ prog_6_method_78_code (1 : Nat) (Option.some FieldType.int) ∈ tbl := tb_in (List.mem_append_right _ (List.mem_of_getElem? (i := 981) (by decide +kernel))) (by decide +kernel)
theorem tw_982 : Cond.methodLink "NotedHouseLaw" (156 : Nat) ⟨"NotedHouseModel", "undo", "()I"⟩ ∈ tbl := tb_in (List.mem_append_right _ (List.mem_of_getElem? (i := 982) (by decide +kernel))) (by decide +kernel)
theorem tw_983 : Cond.instanceMethod ⟨"NotedHouseModel", "undo", "()I"⟩ ∈ tbl := tb_in (List.mem_append_right _ (List.mem_of_getElem? (i := 983) (by decide +kernel))) (by decide +kernel)
theorem tw_984 : Cond.selects "NotedHouseModel" ⟨"NotedHouseModel", "undo", "()I"⟩ ⟨"NotedHouseModel", "undo", "()I"⟩ ∈ tbl := tb_in (List.mem_append_right _ (List.mem_of_getElem? (i := 984) (by decide +kernel))) (by decide +kernel)
theorem tw_985 : Cond.code ⟨"NotedHouseModel", "undo", "()I"⟩ prog_6_method_79_code (1 : Nat) (Option.some FieldType.int) ∈ tbl := tb_in (List.mem_append_right _ (List.mem_of_getElem? (i := 985) (by decide +kernel))) (by decide +kernel)
theorem tw_986 : Cond.methodLink "NotedHouseLaw" (160 : Nat) ⟨"NotedHouseModel", "tear", "()I"⟩ ∈ tbl := tb_in (List.mem_append_right _ (List.mem_of_getElem? (i := 986) (by decide +kernel))) (by decide +kernel)
theorem tw_987 : Cond.instanceMethod ⟨"NotedHouseModel", "tear", "()I"⟩ ∈ tbl := tb_in (List.mem_append_right _ (List.mem_of_getElem? (i := 987) (by decide +kernel))) (by decide +kernel)
theorem tw_988 : Cond.selects "NotedHouseModel" ⟨"NotedHouseModel", "tear", "()I"⟩ ⟨"NotedHouseModel", "tear", "()I"⟩ ∈ tbl := tb_in (List.mem_append_right _ (List.mem_of_getElem? (i := 988) (by decide +kernel))) (by decide +kernel)
theorem tw_989 : Cond.code ⟨"NotedHouseModel", "tear", "()I"⟩ prog_6_method_80_code (2 : Nat) (Option.some FieldType.int) ∈ tbl := tb_in (List.mem_append_right _ (List.mem_of_getElem? (i := 989) (by decide +kernel))) (by decide +kernel)
theorem tw_990 : Cond.methodLink "NotedHouseLaw" (164 : Nat) ⟨"NotedHouseModel", "count", "(I)I"⟩ ∈ tbl := tb_in (List.mem_append_right _ (List.mem_of_getElem? (i := 990) (by decide +kernel))) (by decide +kernel)
theorem tw_991 : Cond.instanceMethod ⟨"NotedHouseModel", "count", "(I)I"⟩ ∈ tbl := tb_in (List.mem_append_right _ (List.mem_of_getElem? (i := 991) (by decide +kernel))) (by decide +kernel)
theorem tw_992 : Cond.selects "NotedHouseModel" ⟨"NotedHouseModel", "count", "(I)I"⟩ ⟨"NotedHouseModel", "count", "(I)I"⟩ ∈ tbl := tb_in (List.mem_append_right _ (List.mem_of_getElem? (i := 992) (by decide +kernel))) (by decide +kernel)
theorem tw_993 : Cond.code ⟨"NotedHouseModel", "count", "(I)I"⟩ prog_6_method_81_code (4 : Nat) (Option.some FieldType.int) ∈ tbl := tb_in (List.mem_append_right _ (List.mem_of_getElem? (i := 993) (by decide +kernel))) (by decide +kernel)
theorem tw_994 : Cond.methodLink "NotedHouseLaw" (168 : Nat) ⟨"NotedHouseModel", "status", "(I)I"⟩ ∈ tbl := tb_in (List.mem_append_right _ (List.mem_of_getElem? (i := 994) (by decide +kernel))) (by decide +kernel)
theorem tw_995 : Cond.instanceMethod ⟨"NotedHouseModel", "status", "(I)I"⟩ ∈ tbl := tb_in (List.mem_append_right _ (List.mem_of_getElem? (i := 995) (by decide +kernel))) (by decide +kernel)
theorem tw_996 : Cond.selects "NotedHouseModel" ⟨"NotedHouseModel", "status", "(I)I"⟩ ⟨"NotedHouseModel", "status", "(I)I"⟩ ∈ tbl := tb_in (List.mem_append_right _ (List.mem_of_getElem? (i := 996) (by decide +kernel))) (by decide +kernel)
theorem tw_997 : Cond.code ⟨"NotedHouseModel", "status", "(I)I"⟩ prog_6_method_82_code (4 : Nat) (Option.some FieldType.int) ∈ tbl := tb_in (List.mem_append_right _ (List.mem_of_getElem? (i := 997) (by decide +kernel))) (by decide +kernel)
theorem tw_998 : Cond.constantLong "NotedHouseModel" (279 : Nat) (-1 : Int64) ∈ tbl := tb_in (List.mem_append_right _ (List.mem_of_getElem? (i := 998) (by decide +kernel))) (by decide +kernel)
theorem tw_999 : Cond.constantLong "NotedHouseModel" (281 : Nat) (6 : Int64) ∈ tbl := tb_in (List.mem_append_right _ (List.mem_of_getElem? (i := 999) (by decide +kernel))) (by decide +kernel)
theorem tw_1000 : Cond.constantLong "NotedHouseLaw" (125 : Nat) (4294967295 : Int64) ∈ tbl := tb_in (List.mem_append_right _ (List.mem_of_getElem? (i := 1000) (by decide +kernel))) (by decide +kernel)
theorem tw_1001 : Cond.fieldLink "java/lang/String" (9 : Nat) "java/lang/String" "value" "[B" ∈ tbl := tb_in (List.mem_append_right _ (List.mem_of_getElem? (i := 1001) (by decide +kernel))) (by decide +kernel)
theorem tw_1002 : Cond.fieldLink "java/lang/String" (15 : Nat) "java/lang/String" "coder" "B" ∈ tbl := tb_in (List.mem_append_right _ (List.mem_of_getElem? (i := 1002) (by decide +kernel))) (by decide +kernel)
theorem ts_0 : Cond.selects "NotedHouse" ⟨"NotedHouse", "finding", "(I)I"⟩ ⟨"NotedHouse", "finding", "(I)I"⟩ ∈ tbl := tb_in (List.mem_append_left _ (List.mem_of_getElem? (i := 0) (by decide +kernel))) (by decide +kernel)
theorem ts_1 : Cond.selects "NotedHouse$House" ⟨"NotedHouse$House", "allNotes", "()I"⟩ ⟨"NotedHouse$House", "allNotes", "()I"⟩ ∈ tbl := tb_in (List.mem_append_left _ (List.mem_of_getElem? (i := 1) (by decide +kernel))) (by decide +kernel)
theorem ts_2 : Cond.selects "NotedHouse$House" ⟨"NotedHouse$House", "whoDoAsAsked", "()I"⟩ ⟨"NotedHouse$House", "whoDoAsAsked", "()I"⟩ ∈ tbl := tb_in (List.mem_append_left _ (List.mem_of_getElem? (i := 2) (by decide +kernel))) (by decide +kernel)
theorem ts_3 : Cond.selects "NotedHouse$House" ⟨"NotedHouse$House", "deedOf", "(I)I"⟩ ⟨"NotedHouse$House", "deedOf", "(I)I"⟩ ∈ tbl := tb_in (List.mem_append_left _ (List.mem_of_getElem? (i := 3) (by decide +kernel))) (by decide +kernel)
theorem ts_4 : Cond.selects "NotedHouse$House" ⟨"NotedHouse$House", "cougherDeed", "(I)I"⟩ ⟨"NotedHouse$House", "cougherDeed", "(I)I"⟩ ∈ tbl := tb_in (List.mem_append_left _ (List.mem_of_getElem? (i := 4) (by decide +kernel))) (by decide +kernel)
theorem ts_5 : Cond.selects "NotedHouse$House" ⟨"NotedHouse$House", "neighbourDid", "(II)Z"⟩ ⟨"NotedHouse$House", "neighbourDid", "(II)Z"⟩ ∈ tbl := tb_in (List.mem_append_left _ (List.mem_of_getElem? (i := 5) (by decide +kernel))) (by decide +kernel)
theorem ts_6 : Cond.selects "NotedHouse$House" ⟨"NotedHouse$House", "sitterDeed", "(I)I"⟩ ⟨"NotedHouse$House", "sitterDeed", "(I)I"⟩ ∈ tbl := tb_in (List.mem_append_left _ (List.mem_of_getElem? (i := 6) (by decide +kernel))) (by decide +kernel)
theorem ts_7 : Cond.selects "NotedHouse$House" ⟨"NotedHouse$House", "weeperDeed", "(I)I"⟩ ⟨"NotedHouse$House", "weeperDeed", "(I)I"⟩ ∈ tbl := tb_in (List.mem_append_left _ (List.mem_of_getElem? (i := 7) (by decide +kernel))) (by decide +kernel)
theorem ts_8 : Cond.selects "NotedHouse$House" ⟨"NotedHouse$House", "allFresh", "()I"⟩ ⟨"NotedHouse$House", "allFresh", "()I"⟩ ∈ tbl := tb_in (List.mem_append_left _ (List.mem_of_getElem? (i := 8) (by decide +kernel))) (by decide +kernel)
theorem ts_9 : Cond.selects "NotedHouse$House" ⟨"NotedHouse$House", "seat", "(II)I"⟩ ⟨"NotedHouse$House", "seat", "(II)I"⟩ ∈ tbl := tb_in (List.mem_append_left _ (List.mem_of_getElem? (i := 9) (by decide +kernel))) (by decide +kernel)
theorem ts_10 : Cond.selects "NotedHouse" ⟨"NotedHouse", "isThere", "(I)Z"⟩ ⟨"NotedHouse", "isThere", "(I)Z"⟩ ∈ tbl := tb_in (List.mem_append_left _ (List.mem_of_getElem? (i := 10) (by decide +kernel))) (by decide +kernel)
theorem ts_11 : Cond.selects "NotedHouse$House" ⟨"NotedHouse$House", "changeSeats", "(II)V"⟩ ⟨"NotedHouse$House", "changeSeats", "(II)V"⟩ ∈ tbl := tb_in (List.mem_append_left _ (List.mem_of_getElem? (i := 11) (by decide +kernel))) (by decide +kernel)
theorem ts_12 : Cond.selects "NotedHouse$House" ⟨"NotedHouse$House", "goOn", "(I)V"⟩ ⟨"NotedHouse$House", "goOn", "(I)V"⟩ ∈ tbl := tb_in (List.mem_append_left _ (List.mem_of_getElem? (i := 12) (by decide +kernel))) (by decide +kernel)
theorem ts_13 : Cond.selects "NotedHouse$House" ⟨"NotedHouse$House", "go", "()V"⟩ ⟨"NotedHouse$House", "go", "()V"⟩ ∈ tbl := tb_in (List.mem_append_left _ (List.mem_of_getElem? (i := 13) (by decide +kernel))) (by decide +kernel)
theorem ts_14 : Cond.selects "NotedHouse$House" ⟨"NotedHouse$House", "endNight", "()V"⟩ ⟨"NotedHouse$House", "endNight", "()V"⟩ ∈ tbl := tb_in (List.mem_append_left _ (List.mem_of_getElem? (i := 14) (by decide +kernel))) (by decide +kernel)
theorem ts_15 : Cond.selects "NotedHouse" ⟨"NotedHouse", "startTrial", "()V"⟩ ⟨"NotedHouse", "startTrial", "()V"⟩ ∈ tbl := tb_in (List.mem_append_left _ (List.mem_of_getElem? (i := 15) (by decide +kernel))) (by decide +kernel)
theorem ts_16 : Cond.selects "NotedHouse$House" ⟨"NotedHouse$House", "become", "(LNotedHouse$House;)V"⟩ ⟨"NotedHouse$House", "become", "(LNotedHouse$House;)V"⟩ ∈ tbl := tb_in (List.mem_append_left _ (List.mem_of_getElem? (i := 16) (by decide +kernel))) (by decide +kernel)
theorem ts_17 : Cond.selects "NotedHouse$House" ⟨"NotedHouse$House", "allNotesOn", "(I)I"⟩ ⟨"NotedHouse$House", "allNotesOn", "(I)I"⟩ ∈ tbl := tb_in (List.mem_append_left _ (List.mem_of_getElem? (i := 17) (by decide +kernel))) (by decide +kernel)
theorem ts_18 : Cond.selects "NotedHouse$House" ⟨"NotedHouse$House", "howManyDo", "(I)I"⟩ ⟨"NotedHouse$House", "howManyDo", "(I)I"⟩ ∈ tbl := tb_in (List.mem_append_left _ (List.mem_of_getElem? (i := 18) (by decide +kernel))) (by decide +kernel)
theorem ts_19 : Cond.selects "NotedHouse$House" ⟨"NotedHouse$House", "tenseAll", "(I)V"⟩ ⟨"NotedHouse$House", "tenseAll", "(I)V"⟩ ∈ tbl := tb_in (List.mem_append_left _ (List.mem_of_getElem? (i := 19) (by decide +kernel))) (by decide +kernel)
theorem ts_20 : Cond.selects "NotedHouse$Text" ⟨"NotedHouse$Text", "add", "(B)V"⟩ ⟨"NotedHouse$Text", "add", "(B)V"⟩ ∈ tbl := tb_in (List.mem_append_left _ (List.mem_of_getElem? (i := 20) (by decide +kernel))) (by decide +kernel)
theorem ts_21 : Cond.selects "NotedHouse$Text" ⟨"NotedHouse$Text", "tellTo", "(LNotedHouse$House;)I"⟩ ⟨"NotedHouse$Text", "tellTo", "(LNotedHouse$House;)I"⟩ ∈ tbl := tb_in (List.mem_append_left _ (List.mem_of_getElem? (i := 21) (by decide +kernel))) (by decide +kernel)
theorem ts_22 : Cond.selects "NotedHouse$Text" ⟨"NotedHouse$Text", "take", "()V"⟩ ⟨"NotedHouse$Text", "take", "()V"⟩ ∈ tbl := tb_in (List.mem_append_left _ (List.mem_of_getElem? (i := 22) (by decide +kernel))) (by decide +kernel)
theorem ts_23 : Cond.selects "NotedHouse$Text" ⟨"NotedHouse$Text", "takeWord", "()V"⟩ ⟨"NotedHouse$Text", "takeWord", "()V"⟩ ∈ tbl := tb_in (List.mem_append_left _ (List.mem_of_getElem? (i := 23) (by decide +kernel))) (by decide +kernel)
theorem ts_24 : Cond.selects "NotedHouse$Text" ⟨"NotedHouse$Text", "takeNumber", "()V"⟩ ⟨"NotedHouse$Text", "takeNumber", "()V"⟩ ∈ tbl := tb_in (List.mem_append_left _ (List.mem_of_getElem? (i := 24) (by decide +kernel))) (by decide +kernel)
theorem ts_25 : Cond.selects "NotedHouse$Text" ⟨"NotedHouse$Text", "takeItem", "(LNotedHouse$House;)Z"⟩ ⟨"NotedHouse$Text", "takeItem", "(LNotedHouse$House;)Z"⟩ ∈ tbl := tb_in (List.mem_append_left _ (List.mem_of_getElem? (i := 25) (by decide +kernel))) (by decide +kernel)
theorem ts_26 : Cond.selects "NotedHouse$Text" ⟨"NotedHouse$Text", "isWord", "(Ljava/lang/String;)Z"⟩ ⟨"NotedHouse$Text", "isWord", "(Ljava/lang/String;)Z"⟩ ∈ tbl := tb_in (List.mem_append_left _ (List.mem_of_getElem? (i := 26) (by decide +kernel))) (by decide +kernel)
theorem ts_27 : Cond.selects "NotedHouse$Text" ⟨"NotedHouse$Text", "takeCue", "(LNotedHouse$House;)Z"⟩ ⟨"NotedHouse$Text", "takeCue", "(LNotedHouse$House;)Z"⟩ ∈ tbl := tb_in (List.mem_append_left _ (List.mem_of_getElem? (i := 27) (by decide +kernel))) (by decide +kernel)
theorem ts_28 : Cond.selects "NotedHouse$Text" ⟨"NotedHouse$Text", "isNumberTo", "(I)Z"⟩ ⟨"NotedHouse$Text", "isNumberTo", "(I)Z"⟩ ∈ tbl := tb_in (List.mem_append_left _ (List.mem_of_getElem? (i := 28) (by decide +kernel))) (by decide +kernel)
theorem ts_29 : Cond.selects "NotedHouse$Text" ⟨"NotedHouse$Text", "cueNamed", "()I"⟩ ⟨"NotedHouse$Text", "cueNamed", "()I"⟩ ∈ tbl := tb_in (List.mem_append_left _ (List.mem_of_getElem? (i := 29) (by decide +kernel))) (by decide +kernel)
theorem ts_30 : Cond.selects "NotedHouse$Text" ⟨"NotedHouse$Text", "takeTense", "(LNotedHouse$House;)Z"⟩ ⟨"NotedHouse$Text", "takeTense", "(LNotedHouse$House;)Z"⟩ ∈ tbl := tb_in (List.mem_append_left _ (List.mem_of_getElem? (i := 30) (by decide +kernel))) (by decide +kernel)
theorem ts_31 : Cond.selects "NotedHouse$Text" ⟨"NotedHouse$Text", "takeSwap", "(LNotedHouse$House;)Z"⟩ ⟨"NotedHouse$Text", "takeSwap", "(LNotedHouse$House;)Z"⟩ ∈ tbl := tb_in (List.mem_append_left _ (List.mem_of_getElem? (i := 31) (by decide +kernel))) (by decide +kernel)
theorem ts_32 : Cond.selects "NotedHouse$Text" ⟨"NotedHouse$Text", "takePerson", "(LNotedHouse$House;)Z"⟩ ⟨"NotedHouse$Text", "takePerson", "(LNotedHouse$House;)Z"⟩ ∈ tbl := tb_in (List.mem_append_left _ (List.mem_of_getElem? (i := 32) (by decide +kernel))) (by decide +kernel)
theorem ts_33 : Cond.selects "NotedHouse$Text" ⟨"NotedHouse$Text", "kindNamed", "()I"⟩ ⟨"NotedHouse$Text", "kindNamed", "()I"⟩ ∈ tbl := tb_in (List.mem_append_left _ (List.mem_of_getElem? (i := 33) (by decide +kernel))) (by decide +kernel)
theorem ts_34 : Cond.selects "NotedHouse$Sheet" ⟨"NotedHouse$Sheet", "layOut", "(II)V"⟩ ⟨"NotedHouse$Sheet", "layOut", "(II)V"⟩ ∈ tbl := tb_in (List.mem_append_left _ (List.mem_of_getElem? (i := 34) (by decide +kernel))) (by decide +kernel)
theorem ts_35 : Cond.selects "NotedHouse$Sheet" ⟨"NotedHouse$Sheet", "isMissing", "()Z"⟩ ⟨"NotedHouse$Sheet", "isMissing", "()Z"⟩ ∈ tbl := tb_in (List.mem_append_left _ (List.mem_of_getElem? (i := 35) (by decide +kernel))) (by decide +kernel)
theorem ts_36 : Cond.selects "NotedHouse$Sheet" ⟨"NotedHouse$Sheet", "put", "(IJ)V"⟩ ⟨"NotedHouse$Sheet", "put", "(IJ)V"⟩ ∈ tbl := tb_in (List.mem_append_left _ (List.mem_of_getElem? (i := 36) (by decide +kernel))) (by decide +kernel)
theorem ts_37 : Cond.selects "NotedHouse$Sheet" ⟨"NotedHouse$Sheet", "has", "(II)Z"⟩ ⟨"NotedHouse$Sheet", "has", "(II)Z"⟩ ∈ tbl := tb_in (List.mem_append_left _ (List.mem_of_getElem? (i := 37) (by decide +kernel))) (by decide +kernel)
theorem ts_38 : Cond.selects "NotedHouse" ⟨"NotedHouse", "refusalOf", "(II)I"⟩ ⟨"NotedHouse", "refusalOf", "(II)I"⟩ ∈ tbl := tb_in (List.mem_append_left _ (List.mem_of_getElem? (i := 38) (by decide +kernel))) (by decide +kernel)
theorem ts_39 : Cond.selects "NotedHouse" ⟨"NotedHouse", "trialDoesAs", "(LNotedHouse$Sheet;I)Z"⟩ ⟨"NotedHouse", "trialDoesAs", "(LNotedHouse$Sheet;I)Z"⟩ ∈ tbl := tb_in (List.mem_append_left _ (List.mem_of_getElem? (i := 39) (by decide +kernel))) (by decide +kernel)
theorem ts_40 : Cond.selects "NotedHouse$House" ⟨"NotedHouse$House", "allTense", "()I"⟩ ⟨"NotedHouse$House", "allTense", "()I"⟩ ∈ tbl := tb_in (List.mem_append_left _ (List.mem_of_getElem? (i := 40) (by decide +kernel))) (by decide +kernel)
theorem ts_41 : Cond.selects "NotedHouseModel" ⟨"NotedHouseModel", "finds", "(I)I"⟩ ⟨"NotedHouseModel", "finds", "(I)I"⟩ ∈ tbl := tb_in (List.mem_append_left _ (List.mem_of_getElem? (i := 41) (by decide +kernel))) (by decide +kernel)
theorem ts_42 : Cond.selects "NotedHouseModel" ⟨"NotedHouseModel", "becomes", "(II)I"⟩ ⟨"NotedHouseModel", "becomes", "(II)I"⟩ ∈ tbl := tb_in (List.mem_append_left _ (List.mem_of_getElem? (i := 42) (by decide +kernel))) (by decide +kernel)
theorem ts_43 : Cond.selects "NotedHouseModel" ⟨"NotedHouseModel", "sumOf", "(I)I"⟩ ⟨"NotedHouseModel", "sumOf", "(I)I"⟩ ∈ tbl := tb_in (List.mem_append_left _ (List.mem_of_getElem? (i := 43) (by decide +kernel))) (by decide +kernel)
theorem ts_44 : Cond.selects "NotedHouseModel" ⟨"NotedHouseModel", "its", "(II)I"⟩ ⟨"NotedHouseModel", "its", "(II)I"⟩ ∈ tbl := tb_in (List.mem_append_left _ (List.mem_of_getElem? (i := 44) (by decide +kernel))) (by decide +kernel)
theorem ts_45 : Cond.selects "NotedHouseModel" ⟨"NotedHouseModel", "doers", "(IZ)I"⟩ ⟨"NotedHouseModel", "doers", "(IZ)I"⟩ ∈ tbl := tb_in (List.mem_append_left _ (List.mem_of_getElem? (i := 45) (by decide +kernel))) (by decide +kernel)
theorem ts_46 : Cond.selects "NotedHouseModel" ⟨"NotedHouseModel", "doesNow", "(I)I"⟩ ⟨"NotedHouseModel", "doesNow", "(I)I"⟩ ∈ tbl := tb_in (List.mem_append_left _ (List.mem_of_getElem? (i := 46) (by decide +kernel))) (by decide +kernel)
theorem ts_47 : Cond.selects "NotedHouseModel" ⟨"NotedHouseModel", "isBeside", "(II)Z"⟩ ⟨"NotedHouseModel", "isBeside", "(II)Z"⟩ ∈ tbl := tb_in (List.mem_append_left _ (List.mem_of_getElem? (i := 47) (by decide +kernel))) (by decide +kernel)
theorem ts_48 : Cond.selects "NotedHouseModel" ⟨"NotedHouseModel", "isPerson", "(I)Z"⟩ ⟨"NotedHouseModel", "isPerson", "(I)Z"⟩ ∈ tbl := tb_in (List.mem_append_left _ (List.mem_of_getElem? (i := 48) (by decide +kernel))) (by decide +kernel)
theorem ts_49 : Cond.selects "NotedHouseModel" ⟨"NotedHouseModel", "comesIn", "(I)I"⟩ ⟨"NotedHouseModel", "comesIn", "(I)I"⟩ ∈ tbl := tb_in (List.mem_append_left _ (List.mem_of_getElem? (i := 49) (by decide +kernel))) (by decide +kernel)
theorem ts_50 : Cond.selects "NotedHouseModel" ⟨"NotedHouseModel", "sets", "(III)V"⟩ ⟨"NotedHouseModel", "sets", "(III)V"⟩ ∈ tbl := tb_in (List.mem_append_left _ (List.mem_of_getElem? (i := 50) (by decide +kernel))) (by decide +kernel)
theorem ts_51 : Cond.selects "NotedHouseModel" ⟨"NotedHouseModel", "stales", "(I)I"⟩ ⟨"NotedHouseModel", "stales", "(I)I"⟩ ∈ tbl := tb_in (List.mem_append_left _ (List.mem_of_getElem? (i := 51) (by decide +kernel))) (by decide +kernel)
theorem ts_52 : Cond.selects "NotedHouseModel" ⟨"NotedHouseModel", "scoresFor", "(III)I"⟩ ⟨"NotedHouseModel", "scoresFor", "(III)I"⟩ ∈ tbl := tb_in (List.mem_append_left _ (List.mem_of_getElem? (i := 52) (by decide +kernel))) (by decide +kernel)
theorem ts_53 : Cond.selects "NotedHouseModel" ⟨"NotedHouseModel", "swaps", "(II)V"⟩ ⟨"NotedHouseModel", "swaps", "(II)V"⟩ ∈ tbl := tb_in (List.mem_append_left _ (List.mem_of_getElem? (i := 53) (by decide +kernel))) (by decide +kernel)
theorem ts_54 : Cond.selects "NotedHouseModel" ⟨"NotedHouseModel", "momentsGo", "(I)V"⟩ ⟨"NotedHouseModel", "momentsGo", "(I)V"⟩ ∈ tbl := tb_in (List.mem_append_left _ (List.mem_of_getElem? (i := 54) (by decide +kernel))) (by decide +kernel)
theorem ts_55 : Cond.selects "NotedHouseModel" ⟨"NotedHouseModel", "momentGoes", "()V"⟩ ⟨"NotedHouseModel", "momentGoes", "()V"⟩ ∈ tbl := tb_in (List.mem_append_left _ (List.mem_of_getElem? (i := 55) (by decide +kernel))) (by decide +kernel)
theorem ts_56 : Cond.selects "NotedHouseModel" ⟨"NotedHouseModel", "whereNote", "(I)I"⟩ ⟨"NotedHouseModel", "whereNote", "(I)I"⟩ ∈ tbl := tb_in (List.mem_append_left _ (List.mem_of_getElem? (i := 56) (by decide +kernel))) (by decide +kernel)
theorem ts_57 : Cond.selects "NotedHouseModel" ⟨"NotedHouseModel", "behind", "(II)I"⟩ ⟨"NotedHouseModel", "behind", "(II)I"⟩ ∈ tbl := tb_in (List.mem_append_left _ (List.mem_of_getElem? (i := 57) (by decide +kernel))) (by decide +kernel)
theorem ts_58 : Cond.selects "NotedHouseModel" ⟨"NotedHouseModel", "houseBehind", "(I)I"⟩ ⟨"NotedHouseModel", "houseBehind", "(I)I"⟩ ∈ tbl := tb_in (List.mem_append_left _ (List.mem_of_getElem? (i := 58) (by decide +kernel))) (by decide +kernel)
theorem ts_59 : Cond.selects "NotedHouseModel" ⟨"NotedHouseModel", "items", "()I"⟩ ⟨"NotedHouseModel", "items", "()I"⟩ ∈ tbl := tb_in (List.mem_append_left _ (List.mem_of_getElem? (i := 59) (by decide +kernel))) (by decide +kernel)
theorem ts_60 : Cond.selects "NotedHouseModel" ⟨"NotedHouseModel", "next", "()V"⟩ ⟨"NotedHouseModel", "next", "()V"⟩ ∈ tbl := tb_in (List.mem_append_left _ (List.mem_of_getElem? (i := 60) (by decide +kernel))) (by decide +kernel)
theorem ts_61 : Cond.selects "NotedHouseModel" ⟨"NotedHouseModel", "byteAt", "(I)I"⟩ ⟨"NotedHouseModel", "byteAt", "(I)I"⟩ ∈ tbl := tb_in (List.mem_append_left _ (List.mem_of_getElem? (i := 61) (by decide +kernel))) (by decide +kernel)
theorem ts_62 : Cond.selects "NotedHouseModel" ⟨"NotedHouseModel", "item", "()V"⟩ ⟨"NotedHouseModel", "item", "()V"⟩ ∈ tbl := tb_in (List.mem_append_left _ (List.mem_of_getElem? (i := 62) (by decide +kernel))) (by decide +kernel)
theorem ts_63 : Cond.selects "NotedHouseModel" ⟨"NotedHouseModel", "kindHere", "()I"⟩ ⟨"NotedHouseModel", "kindHere", "()I"⟩ ∈ tbl := tb_in (List.mem_append_left _ (List.mem_of_getElem? (i := 63) (by decide +kernel))) (by decide +kernel)
theorem ts_64 : Cond.selects "NotedHouseModel" ⟨"NotedHouseModel", "isWord", "(J)Z"⟩ ⟨"NotedHouseModel", "isWord", "(J)Z"⟩ ∈ tbl := tb_in (List.mem_append_left _ (List.mem_of_getElem? (i := 64) (by decide +kernel))) (by decide +kernel)
theorem ts_65 : Cond.selects "NotedHouseModel" ⟨"NotedHouseModel", "personHere", "(I)V"⟩ ⟨"NotedHouseModel", "personHere", "(I)V"⟩ ∈ tbl := tb_in (List.mem_append_left _ (List.mem_of_getElem? (i := 65) (by decide +kernel))) (by decide +kernel)
theorem ts_66 : Cond.selects "NotedHouseModel" ⟨"NotedHouseModel", "wrongHere", "()V"⟩ ⟨"NotedHouseModel", "wrongHere", "()V"⟩ ∈ tbl := tb_in (List.mem_append_left _ (List.mem_of_getElem? (i := 66) (by decide +kernel))) (by decide +kernel)
theorem ts_67 : Cond.selects "NotedHouseModel" ⟨"NotedHouseModel", "numberHere", "(II)I"⟩ ⟨"NotedHouseModel", "numberHere", "(II)I"⟩ ∈ tbl := tb_in (List.mem_append_left _ (List.mem_of_getElem? (i := 67) (by decide +kernel))) (by decide +kernel)
theorem ts_68 : Cond.selects "NotedHouseModel" ⟨"NotedHouseModel", "cueItem", "()V"⟩ ⟨"NotedHouseModel", "cueItem", "()V"⟩ ∈ tbl := tb_in (List.mem_append_left _ (List.mem_of_getElem? (i := 68) (by decide +kernel))) (by decide +kernel)
theorem ts_69 : Cond.selects "NotedHouseModel" ⟨"NotedHouseModel", "cueHere", "()I"⟩ ⟨"NotedHouseModel", "cueHere", "()I"⟩ ∈ tbl := tb_in (List.mem_append_left _ (List.mem_of_getElem? (i := 69) (by decide +kernel))) (by decide +kernel)
theorem ts_70 : Cond.selects "NotedHouseModel" ⟨"NotedHouseModel", "tenseItem", "()V"⟩ ⟨"NotedHouseModel", "tenseItem", "()V"⟩ ∈ tbl := tb_in (List.mem_append_left _ (List.mem_of_getElem? (i := 70) (by decide +kernel))) (by decide +kernel)
theorem ts_71 : Cond.selects "NotedHouseModel" ⟨"NotedHouseModel", "swapItem", "()V"⟩ ⟨"NotedHouseModel", "swapItem", "()V"⟩ ∈ tbl := tb_in (List.mem_append_left _ (List.mem_of_getElem? (i := 71) (by decide +kernel))) (by decide +kernel)
theorem ts_72 : Cond.selects "NotedHouseModel" ⟨"NotedHouseModel", "whyNone", "(I)I"⟩ ⟨"NotedHouseModel", "whyNone", "(I)I"⟩ ∈ tbl := tb_in (List.mem_append_left _ (List.mem_of_getElem? (i := 72) (by decide +kernel))) (by decide +kernel)
theorem ts_73 : Cond.selects "NotedHouseModel" ⟨"NotedHouseModel", "puts", "(IIJ)V"⟩ ⟨"NotedHouseModel", "puts", "(IIJ)V"⟩ ∈ tbl := tb_in (List.mem_append_left _ (List.mem_of_getElem? (i := 73) (by decide +kernel))) (by decide +kernel)
end
section
theorem lk_L_13 : LinkV RL 13 RX3 yX3_play cX3_play 5 ((Option.some FieldType.int)) 3 := ⟨tw_141, tw_142, tw_143, tw_1, tw_144, ⟨by decide +kernel, by decide +kernel⟩, by decide +kernel⟩
theorem lk_X3_44 : LinkS RX3 44 yX3_isIn cX3_isIn 3 ((Option.some FieldType.boolean)) 3 := ⟨tw_145, tw_146, tw_1, tw_147, ⟨by decide +kernel, by decide +kernel⟩, by decide +kernel⟩
theorem lk_X3_49 : LinkV RX3 49 RX3 yX3_finding cX3_finding 3 ((Option.some FieldType.int)) 1 := ⟨tw_149, tw_151, ts_0, tw_1, tw_152, ⟨by decide +kernel, by decide +kernel⟩, by decide +kernel⟩
theorem lk_L_18 : LinkV RL 18 RX3 yX3_now cX3_now 2 ((Option.some FieldType.int)) 1 := ⟨tw_153, tw_154, tw_155, tw_1, tw_156, ⟨by decide +kernel, by decide +kernel⟩, by decide +kernel⟩
theorem lk_X3_66 : LinkVN RX3 66 RX0 yX0_allNotes "NotedHouse" cX0_allNotes 1 ((Option.some FieldType.int)) 0 := ⟨tw_157, tw_159, ts_1, tw_2, tw_160, ⟨by decide +kernel, by decide +kernel⟩, by decide +kernel⟩
theorem lk_X0_53 : LinkS RX0 53 yX0_sum cX0_sum 4 ((Option.some FieldType.int)) 2 := ⟨tw_161, tw_162, tw_2, tw_163, ⟨by decide +kernel, by decide +kernel⟩, by decide +kernel⟩
theorem lk_X3_70 : LinkVN RX3 70 RX0 yX0_whoDoAsAsked "NotedHouse" cX0_whoDoAsAsked 3 ((Option.some FieldType.int)) 0 := ⟨tw_164, tw_166, ts_2, tw_2, tw_167, ⟨by decide +kernel, by decide +kernel⟩, by decide +kernel⟩
theorem lk_X0_57 : LinkV RX0 57 RX0 yX0_deedOf cX0_deedOf 2 ((Option.some FieldType.int)) 1 := ⟨tw_168, tw_170, ts_3, tw_2, tw_171, ⟨by decide +kernel, by decide +kernel⟩, by decide +kernel⟩
theorem lk_X0_61 : LinkV RX0 61 RX0 yX0_cougherDeed cX0_cougherDeed 2 ((Option.some FieldType.int)) 1 := ⟨tw_172, tw_174, ts_4, tw_2, tw_175, ⟨by decide +kernel, by decide +kernel⟩, by decide +kernel⟩
theorem lk_X0_67 : LinkV RX0 67 RX0 yX0_neighbourDid cX0_neighbourDid 3 ((Option.some FieldType.boolean)) 2 := ⟨tw_176, tw_178, ts_5, tw_2, tw_179, ⟨by decide +kernel, by decide +kernel⟩, by decide +kernel⟩
theorem lk_X0_71 : LinkV RX0 71 RX0 yX0_sitterDeed cX0_sitterDeed 2 ((Option.some FieldType.int)) 1 := ⟨tw_180, tw_182, ts_6, tw_2, tw_183, ⟨by decide +kernel, by decide +kernel⟩, by decide +kernel⟩
theorem lk_X0_64 : LinkV RX0 64 RX0 yX0_weeperDeed cX0_weeperDeed 2 ((Option.some FieldType.int)) 1 := ⟨tw_184, tw_186, ts_7, tw_2, tw_187, ⟨by decide +kernel, by decide +kernel⟩, by decide +kernel⟩
theorem lk_X3_73 : LinkVN RX3 73 RX0 yX0_allFresh "NotedHouse" cX0_allFresh 1 ((Option.some FieldType.int)) 0 := ⟨tw_188, tw_190, ts_8, tw_2, tw_191, ⟨by decide +kernel, by decide +kernel⟩, by decide +kernel⟩
theorem lk_L_23 : LinkV RL 23 RX3 yX3_person cX3_person 2 ((Option.some FieldType.int)) 1 := ⟨tw_192, tw_193, tw_194, tw_1, tw_195, ⟨by decide +kernel, by decide +kernel⟩, by decide +kernel⟩
theorem lk_X3_80 : LinkVN RX3 80 RX0 yX0_seat "NotedHouse" cX0_seat 4 ((Option.some FieldType.int)) 2 := ⟨tw_197, tw_199, ts_9, tw_2, tw_200, ⟨by decide +kernel, by decide +kernel⟩, by decide +kernel⟩
theorem lk_L_27 : LinkV RL 27 RX3 yX3_of cX3_of 3 ((Option.some FieldType.int)) 2 := ⟨tw_201, tw_202, tw_203, tw_1, tw_204, ⟨by decide +kernel, by decide +kernel⟩, by decide +kernel⟩
theorem lk_X3_84 : LinkV RX3 84 RX3 yX3_isThere cX3_isThere 2 ((Option.some FieldType.boolean)) 1 := ⟨tw_205, tw_207, ts_10, tw_1, tw_208, ⟨by decide +kernel, by decide +kernel⟩, by decide +kernel⟩
theorem lk_X3_100 : LinkVN RX3 100 RX0 yX0_deedOf "NotedHouse" cX0_deedOf 2 ((Option.some FieldType.int)) 1 := ⟨tw_209, tw_170, ts_3, tw_2, tw_171, ⟨by decide +kernel, by decide +kernel⟩, by decide +kernel⟩
theorem lk_X3_103 : LinkS RX3 103 yX3_staleness cX3_staleness 1 ((Option.some FieldType.int)) 1 := ⟨tw_210, tw_211, tw_1, tw_212, ⟨by decide +kernel, by decide +kernel⟩, by decide +kernel⟩
theorem lk_L_32 : LinkV RL 32 RX3 yX3_scores cX3_scores 4 ((Option.some FieldType.int)) 3 := ⟨tw_213, tw_214, tw_215, tw_1, tw_216, ⟨by decide +kernel, by decide +kernel⟩, by decide +kernel⟩
theorem lk_X3_106 : LinkS RX3 106 yX3_scoreFor cX3_scoreFor 3 ((Option.some FieldType.int)) 3 := ⟨tw_217, tw_218, tw_1, tw_219, ⟨by decide +kernel, by decide +kernel⟩, by decide +kernel⟩
theorem lk_X3_215 : LinkS RX3 215 yX3_cougherScore cX3_cougherScore 2 ((Option.some FieldType.int)) 2 := ⟨tw_220, tw_221, tw_1, tw_222, ⟨by decide +kernel, by decide +kernel⟩, by decide +kernel⟩
theorem lk_X3_221 : LinkS RX3 221 yX3_sitterScore cX3_sitterScore 2 ((Option.some FieldType.int)) 2 := ⟨tw_223, tw_224, tw_1, tw_225, ⟨by decide +kernel, by decide +kernel⟩, by decide +kernel⟩
theorem lk_X3_218 : LinkS RX3 218 yX3_weeperScore cX3_weeperScore 2 ((Option.some FieldType.int)) 2 := ⟨tw_226, tw_227, tw_1, tw_228, ⟨by decide +kernel, by decide +kernel⟩, by decide +kernel⟩
theorem lk_X3_209 : LinkS RX3 209 yJ9_max_7cf53 cJ9_max_7cf53 2 ((Option.some FieldType.int)) 2 := ⟨tw_229, tw_230, tw_6, tw_231, ⟨by decide +kernel, by decide +kernel⟩, by decide +kernel⟩
theorem lk_L_36 : LinkV RL 36 RX3 yX3_set cX3_set 5 ((Option.some FieldType.int)) 3 := ⟨tw_232, tw_233, tw_234, tw_1, tw_235, ⟨by decide +kernel, by decide +kernel⟩, by decide +kernel⟩
theorem lk_L_40 : LinkV RL 40 RX3 yX3_turn cX3_turn 4 ((Option.some FieldType.int)) 2 := ⟨tw_236, tw_237, tw_238, tw_1, tw_239, ⟨by decide +kernel, by decide +kernel⟩, by decide +kernel⟩
theorem lk_L_44 : LinkV RL 44 RX3 yX3_as cX3_as 3 ((Option.some FieldType.int)) 2 := ⟨tw_240, tw_241, tw_242, tw_1, tw_243, ⟨by decide +kernel, by decide +kernel⟩, by decide +kernel⟩
theorem lk_X3_110 : LinkS RX3 110 yX3_isUnder cX3_isUnder 4 ((Option.some FieldType.boolean)) 2 := ⟨tw_244, tw_245, tw_1, tw_246, ⟨by decide +kernel, by decide +kernel⟩, by decide +kernel⟩
theorem lk_L_48 : LinkV RL 48 RX3 yX3_swap cX3_swap 3 ((Option.some FieldType.int)) 2 := ⟨tw_250, tw_251, tw_252, tw_1, tw_253, ⟨by decide +kernel, by decide +kernel⟩, by decide +kernel⟩
theorem lk_X3_115 : LinkVN RX3 115 RX0 yX0_changeSeats "NotedHouse" cX0_changeSeats 3 (none) 2 := ⟨tw_254, tw_256, ts_11, tw_2, tw_257, ⟨by decide +kernel, by decide +kernel⟩, by decide +kernel⟩
theorem lk_X0_49 : LinkS RX0 49 yX0_exchange cX0_exchange 4 (none) 3 := ⟨tw_258, tw_259, tw_2, tw_260, ⟨by decide +kernel, by decide +kernel⟩, by decide +kernel⟩
theorem lk_L_52 : LinkV RL 52 RX3 yX3_moments cX3_moments 2 ((Option.some FieldType.int)) 1 := ⟨tw_261, tw_262, tw_263, tw_1, tw_264, ⟨by decide +kernel, by decide +kernel⟩, by decide +kernel⟩
theorem lk_X3_120 : LinkVN RX3 120 RX0 yX0_goOn "NotedHouse" cX0_goOn 3 (none) 1 := ⟨tw_266, tw_268, ts_12, tw_2, tw_269, ⟨by decide +kernel, by decide +kernel⟩, by decide +kernel⟩
theorem lk_X0_82 : LinkV RX0 82 RX0 yX0_go cX0_go 3 (none) 0 := ⟨tw_270, tw_272, ts_13, tw_2, tw_273, ⟨by decide +kernel, by decide +kernel⟩, by decide +kernel⟩
theorem lk_X0_85 : LinkSN RX0 85 yX3_scoreFor "NotedHouse" cX3_scoreFor 3 ((Option.some FieldType.int)) 3 := ⟨tw_274, tw_218, tw_1, tw_219, ⟨by decide +kernel, by decide +kernel⟩, by decide +kernel⟩
theorem lk_X0_89 : LinkSN RX0 89 yX3_held "NotedHouse" cX3_held 3 ((Option.some FieldType.int)) 3 := ⟨tw_275, tw_276, tw_1, tw_277, ⟨by decide +kernel, by decide +kernel⟩, by decide +kernel⟩
theorem lk_X3_204 : LinkS RX3 204 yJ9_min_7cf53 cJ9_min_7cf53 2 ((Option.some FieldType.int)) 2 := ⟨tw_278, tw_279, tw_6, tw_280, ⟨by decide +kernel, by decide +kernel⟩, by decide +kernel⟩
theorem lk_X0_92 : LinkV RX0 92 RX0 yX0_endNight cX0_endNight 2 (none) 0 := ⟨tw_281, tw_283, ts_14, tw_2, tw_284, ⟨by decide +kernel, by decide +kernel⟩, by decide +kernel⟩
theorem lk_X0_95 : LinkSN RX0 95 yX3_staleness "NotedHouse" cX3_staleness 1 ((Option.some FieldType.int)) 1 := ⟨tw_285, tw_211, tw_1, tw_212, ⟨by decide +kernel, by decide +kernel⟩, by decide +kernel⟩
theorem lk_L_56 : LinkV RL 56 RX3 yX3_note cX3_note 3 ((Option.some FieldType.int)) 2 := ⟨tw_286, tw_287, tw_288, tw_1, tw_289, ⟨by decide +kernel, by decide +kernel⟩, by decide +kernel⟩
theorem lk_X3_124 : LinkV RX3 124 RX3 yX3_startTrial cX3_startTrial 1 (none) 0 := ⟨tw_290, tw_292, ts_15, tw_1, tw_293, ⟨by decide +kernel, by decide +kernel⟩, by decide +kernel⟩
theorem lk_X3_153 : LinkVN RX3 153 RX0 yX0_become "NotedHouse" cX0_become 2 (none) 1 := ⟨tw_294, tw_296, ts_16, tw_2, tw_297, ⟨by decide +kernel, by decide +kernel⟩, by decide +kernel⟩
theorem lk_L_60 : LinkV RL 60 RX3 yX3_on cX3_on 4 ((Option.some FieldType.int)) 3 := ⟨tw_301, tw_302, tw_303, tw_1, tw_304, ⟨by decide +kernel, by decide +kernel⟩, by decide +kernel⟩
theorem lk_L_64 : LinkV RL 64 RX3 yX3_house cX3_house 2 ((Option.some FieldType.int)) 1 := ⟨tw_305, tw_306, tw_307, tw_1, tw_308, ⟨by decide +kernel, by decide +kernel⟩, by decide +kernel⟩
theorem lk_X3_127 : LinkVN RX3 127 RX0 yX0_allNotesOn "NotedHouse" cX0_allNotesOn 2 ((Option.some FieldType.int)) 1 := ⟨tw_309, tw_311, ts_17, tw_2, tw_312, ⟨by decide +kernel, by decide +kernel⟩, by decide +kernel⟩
theorem lk_X0_74 : LinkV RX0 74 RX0 yX0_goOn cX0_goOn 3 (none) 1 := ⟨tw_313, tw_268, ts_12, tw_2, tw_269, ⟨by decide +kernel, by decide +kernel⟩, by decide +kernel⟩
theorem lk_X0_78 : LinkV RX0 78 RX0 yX0_allNotes cX0_allNotes 1 ((Option.some FieldType.int)) 0 := ⟨tw_314, tw_159, ts_1, tw_2, tw_160, ⟨by decide +kernel, by decide +kernel⟩, by decide +kernel⟩
theorem lk_L_68 : LinkV RL 68 RX3 yX3_heard cX3_heard 3 ((Option.some FieldType.int)) 2 := ⟨tw_315, tw_316, tw_317, tw_1, tw_318, ⟨by decide +kernel, by decide +kernel⟩, by decide +kernel⟩
theorem lk_X3_130 : LinkVN RX3 130 RX0 yX0_howManyDo "NotedHouse" cX0_howManyDo 4 ((Option.some FieldType.int)) 1 := ⟨tw_319, tw_321, ts_18, tw_2, tw_322, ⟨by decide +kernel, by decide +kernel⟩, by decide +kernel⟩
theorem lk_L_72 : LinkV RL 72 RX3 yX3_does cX3_does 4 ((Option.some FieldType.int)) 2 := ⟨tw_323, tw_324, tw_325, tw_1, tw_326, ⟨by decide +kernel, by decide +kernel⟩, by decide +kernel⟩
theorem lk_X3_133 : LinkVN RX3 133 RX0 yX0_go "NotedHouse" cX0_go 3 (none) 0 := ⟨tw_327, tw_272, ts_13, tw_2, tw_273, ⟨by decide +kernel, by decide +kernel⟩, by decide +kernel⟩
theorem lk_L_76 : LinkV RL 76 RX3 yX3_comes cX3_comes 4 ((Option.some FieldType.int)) 2 := ⟨tw_329, tw_330, tw_331, tw_1, tw_332, ⟨by decide +kernel, by decide +kernel⟩, by decide +kernel⟩
theorem lk_L_80 : LinkV RL 80 RX3 yX3_place cX3_place 7 ((Option.some FieldType.int)) 2 := ⟨tw_333, tw_334, tw_335, tw_1, tw_336, ⟨by decide +kernel, by decide +kernel⟩, by decide +kernel⟩
theorem lk_L_84 : LinkV RL 84 RX3 yX3_kind cX3_kind 6 ((Option.some FieldType.int)) 2 := ⟨tw_337, tw_338, tw_339, tw_1, tw_340, ⟨by decide +kernel, by decide +kernel⟩, by decide +kernel⟩
theorem lk_L_88 : LinkV RL 88 RX3 yX3_fresh cX3_fresh 5 ((Option.some FieldType.int)) 3 := ⟨tw_341, tw_342, tw_343, tw_1, tw_344, ⟨by decide +kernel, by decide +kernel⟩, by decide +kernel⟩
theorem lk_L_92 : LinkV RL 92 RX3 yX3_cue cX3_cue 6 ((Option.some FieldType.int)) 1 := ⟨tw_345, tw_346, tw_347, tw_1, tw_348, ⟨by decide +kernel, by decide +kernel⟩, by decide +kernel⟩
theorem lk_L_96 : LinkV RL 96 RX3 yX3_doze cX3_doze 6 ((Option.some FieldType.int)) 1 := ⟨tw_350, tw_351, tw_352, tw_1, tw_353, ⟨by decide +kernel, by decide +kernel⟩, by decide +kernel⟩
theorem lk_L_100 : LinkV RL 100 RX3 yX3_tense cX3_tense 4 ((Option.some FieldType.int)) 2 := ⟨tw_355, tw_356, tw_357, tw_1, tw_358, ⟨by decide +kernel, by decide +kernel⟩, by decide +kernel⟩
theorem lk_X3_139 : LinkVN RX3 139 RX0 yX0_tenseAll "NotedHouse" cX0_tenseAll 3 (none) 1 := ⟨tw_359, tw_361, ts_19, tw_2, tw_362, ⟨by decide +kernel, by decide +kernel⟩, by decide +kernel⟩
theorem lk_L_104 : LinkV RL 104 RX3 yX3_best cX3_best 5 ((Option.some FieldType.int)) 1 := ⟨tw_363, tw_364, tw_365, tw_1, tw_366, ⟨by decide +kernel, by decide +kernel⟩, by decide +kernel⟩
theorem lk_L_108 : LinkV RL 108 RX3 yX3_feed cX3_feed 4 ((Option.some FieldType.int)) 2 := ⟨tw_367, tw_368, tw_369, tw_1, tw_370, ⟨by decide +kernel, by decide +kernel⟩, by decide +kernel⟩
theorem lk_X3_145 : LinkVN RX3 145 RX2 yX2_add "NotedHouse" cX2_add 2 (none) 1 := ⟨tw_371, tw_373, ts_20, tw_3, tw_374, ⟨by decide +kernel, by decide +kernel⟩, by decide +kernel⟩
theorem lk_L_112 : LinkV RL 112 RX3 yX3_wipe cX3_wipe 2 ((Option.some FieldType.int)) 0 := ⟨tw_375, tw_376, tw_377, tw_1, tw_378, ⟨by decide +kernel, by decide +kernel⟩, by decide +kernel⟩
theorem lk_L_117 : LinkV RL 117 RX3 yX3_evening cX3_evening 2 ((Option.some FieldType.int)) 0 := ⟨tw_379, tw_380, tw_381, tw_1, tw_382, ⟨by decide +kernel, by decide +kernel⟩, by decide +kernel⟩
theorem lk_X3_149 : LinkVN RX3 149 RX2 yX2_tellTo "NotedHouse" cX2_tellTo 3 ((Option.some FieldType.int)) 1 := ⟨tw_383, tw_385, ts_21, tw_3, tw_386, ⟨by decide +kernel, by decide +kernel⟩, by decide +kernel⟩
theorem lk_X2_31 : LinkV RX2 31 RX2 yX2_take cX2_take 1 (none) 0 := ⟨tw_387, tw_389, ts_22, tw_3, tw_390, ⟨by decide +kernel, by decide +kernel⟩, by decide +kernel⟩
theorem lk_X2_133 : LinkS RX2 133 yX2_isLetter cX2_isLetter 1 ((Option.some FieldType.boolean)) 1 := ⟨tw_391, tw_392, tw_3, tw_393, ⟨by decide +kernel, by decide +kernel⟩, by decide +kernel⟩
theorem lk_X2_137 : LinkV RX2 137 RX2 yX2_takeWord cX2_takeWord 1 (none) 0 := ⟨tw_394, tw_396, ts_23, tw_3, tw_397, ⟨by decide +kernel, by decide +kernel⟩, by decide +kernel⟩
theorem lk_X2_140 : LinkS RX2 140 yX2_isDigit cX2_isDigit 1 ((Option.some FieldType.boolean)) 1 := ⟨tw_398, tw_399, tw_3, tw_400, ⟨by decide +kernel, by decide +kernel⟩, by decide +kernel⟩
theorem lk_X2_143 : LinkV RX2 143 RX2 yX2_takeNumber cX2_takeNumber 1 (none) 0 := ⟨tw_401, tw_403, ts_24, tw_3, tw_404, ⟨by decide +kernel, by decide +kernel⟩, by decide +kernel⟩
theorem lk_X2_146 : LinkS RX2 146 yJ9_min_7cf53 cJ9_min_7cf53 2 ((Option.some FieldType.int)) 2 := ⟨tw_405, tw_279, tw_6, tw_280, ⟨by decide +kernel, by decide +kernel⟩, by decide +kernel⟩
theorem lk_X2_34 : LinkV RX2 34 RX2 yX2_takeItem cX2_takeItem 2 ((Option.some FieldType.boolean)) 1 := ⟨tw_406, tw_408, ts_25, tw_3, tw_409, ⟨by decide +kernel, by decide +kernel⟩, by decide +kernel⟩
theorem lk_X2_40 : LinkV RX2 40 RX2 yX2_isWord cX2_isWord 3 ((Option.some FieldType.boolean)) 1 := ⟨tw_411, tw_413, ts_26, tw_3, tw_414, ⟨by decide +kernel, by decide +kernel⟩, by decide +kernel⟩
theorem lk_X2_125 : LinkV RX2 125 RJ0 yJ0_length_8abf5 cJ0_length_8abf5 1 ((Option.some FieldType.int)) 0 := ⟨tw_415, tw_416, tw_417, tw_8, tw_418, ⟨by decide +kernel, by decide +kernel⟩, by decide +kernel⟩
theorem lk_J0_335 : LinkV RJ0 335 RJ0 yJ0_coder_7d493 cJ0_coder_7d493 1 ((Option.some FieldType.byte)) 0 := ⟨tw_419, tw_420, tw_421, tw_8, tw_422, ⟨by decide +kernel, by decide +kernel⟩, by decide +kernel⟩
theorem lk_X2_129 : LinkV RX2 129 RJ0 yJ0_charAt_5068e cJ0_charAt_5068e 2 ((Option.some FieldType.char)) 1 := ⟨tw_425, tw_426, tw_427, tw_8, tw_428, ⟨by decide +kernel, by decide +kernel⟩, by decide +kernel⟩
theorem lk_J0_492 : LinkV RJ0 492 RJ0 yJ0_isLatin1_aae02 cJ0_isLatin1_aae02 1 ((Option.some FieldType.boolean)) 0 := ⟨tw_429, tw_430, tw_431, tw_8, tw_432, ⟨by decide +kernel, by decide +kernel⟩, by decide +kernel⟩
theorem lk_J0_495 : LinkS RJ0 495 yJ1_charAt_3b067 cJ1_charAt_3b067 2 ((Option.some FieldType.char)) 2 := ⟨tw_433, tw_434, tw_9, tw_435, ⟨by decide +kernel, by decide +kernel⟩, by decide +kernel⟩
theorem lk_J1_9 : LinkS RJ1 9 yJ0_checkIndex_df160 cJ0_checkIndex_df160 2 (none) 2 := ⟨tw_436, tw_437, tw_8, tw_438, ⟨by decide +kernel, by decide +kernel⟩, by decide +kernel⟩
theorem lk_J0_1059 : LinkS RJ0 1059 yJ3_checkIndex_8e157 cJ3_checkIndex_8e157 3 ((Option.some FieldType.int)) 3 := ⟨tw_441, tw_442, tw_10, tw_443, ⟨by decide +kernel, by decide +kernel⟩, by decide +kernel⟩
theorem lk_J0_498 : LinkS RJ0 498 yJ2_charAt_3b067 cJ2_charAt_3b067 2 ((Option.some FieldType.char)) 2 := ⟨tw_444, tw_445, tw_11, tw_446, ⟨by decide +kernel, by decide +kernel⟩, by decide +kernel⟩
theorem lk_J2_67 : LinkS RJ2 67 yJ2_checkIndex_2214a cJ2_checkIndex_2214a 2 (none) 2 := ⟨tw_447, tw_448, tw_11, tw_449, ⟨by decide +kernel, by decide +kernel⟩, by decide +kernel⟩
theorem lk_J2_48 : LinkS RJ2 48 yJ2_length_9d52b cJ2_length_9d52b 1 ((Option.some FieldType.int)) 1 := ⟨tw_450, tw_451, tw_11, tw_452, ⟨by decide +kernel, by decide +kernel⟩, by decide +kernel⟩
theorem lk_J2_414 : LinkS RJ2 414 yJ0_checkIndex_df160 cJ0_checkIndex_df160 2 (none) 2 := ⟨tw_453, tw_437, tw_8, tw_438, ⟨by decide +kernel, by decide +kernel⟩, by decide +kernel⟩
theorem lk_J2_71 : LinkS RJ2 71 yJ2_getChar_3b067 cJ2_getChar_3b067 2 ((Option.some FieldType.char)) 2 := ⟨tw_454, tw_455, tw_11, tw_456, ⟨by decide +kernel, by decide +kernel⟩, by decide +kernel⟩
theorem lk_X2_44 : LinkV RX2 44 RX2 yX2_takeCue cX2_takeCue 4 ((Option.some FieldType.boolean)) 1 := ⟨tw_463, tw_465, ts_27, tw_3, tw_466, ⟨by decide +kernel, by decide +kernel⟩, by decide +kernel⟩
theorem lk_X2_75 : LinkV RX2 75 RX2 yX2_isNumberTo cX2_isNumberTo 2 ((Option.some FieldType.boolean)) 1 := ⟨tw_467, tw_469, ts_28, tw_3, tw_470, ⟨by decide +kernel, by decide +kernel⟩, by decide +kernel⟩
theorem lk_X2_83 : LinkV RX2 83 RX2 yX2_cueNamed cX2_cueNamed 2 ((Option.some FieldType.int)) 0 := ⟨tw_471, tw_473, ts_29, tw_3, tw_474, ⟨by decide +kernel, by decide +kernel⟩, by decide +kernel⟩
theorem lk_X2_100 : LinkS RX2 100 yX2_nameOfCue cX2_nameOfCue 1 ((Option.some (FieldType.object "java/lang/String"))) 1 := ⟨tw_475, tw_476, tw_3, tw_477, ⟨by decide +kernel, by decide +kernel⟩, by decide +kernel⟩
theorem lk_X2_49 : LinkV RX2 49 RX2 yX2_takeTense cX2_takeTense 3 ((Option.some FieldType.boolean)) 1 := ⟨tw_484, tw_486, ts_30, tw_3, tw_487, ⟨by decide +kernel, by decide +kernel⟩, by decide +kernel⟩
theorem lk_X2_54 : LinkV RX2 54 RX2 yX2_takeSwap cX2_takeSwap 3 ((Option.some FieldType.boolean)) 1 := ⟨tw_489, tw_491, ts_31, tw_3, tw_492, ⟨by decide +kernel, by decide +kernel⟩, by decide +kernel⟩
theorem lk_X2_92 : LinkVN RX2 92 RX0 yX0_changeSeats "NotedHouse" cX0_changeSeats 3 (none) 2 := ⟨tw_493, tw_256, ts_11, tw_2, tw_257, ⟨by decide +kernel, by decide +kernel⟩, by decide +kernel⟩
theorem lk_X2_57 : LinkV RX2 57 RX2 yX2_takePerson cX2_takePerson 4 ((Option.some FieldType.boolean)) 1 := ⟨tw_494, tw_496, ts_32, tw_3, tw_497, ⟨by decide +kernel, by decide +kernel⟩, by decide +kernel⟩
theorem lk_X2_60 : LinkV RX2 60 RX2 yX2_kindNamed cX2_kindNamed 2 ((Option.some FieldType.int)) 0 := ⟨tw_498, tw_500, ts_33, tw_3, tw_501, ⟨by decide +kernel, by decide +kernel⟩, by decide +kernel⟩
theorem lk_X2_96 : LinkS RX2 96 yX2_nameOfKind cX2_nameOfKind 1 ((Option.some (FieldType.object "java/lang/String"))) 1 := ⟨tw_502, tw_503, tw_3, tw_504, ⟨by decide +kernel, by decide +kernel⟩, by decide +kernel⟩
theorem lk_X2_69 : LinkVN RX2 69 RX0 yX0_seat "NotedHouse" cX0_seat 4 ((Option.some FieldType.int)) 2 := ⟨tw_511, tw_199, ts_9, tw_2, tw_200, ⟨by decide +kernel, by decide +kernel⟩, by decide +kernel⟩
theorem lk_L_121 : LinkV RL 121 RX3 yX3_sheet cX3_sheet 4 ((Option.some FieldType.int)) 3 := ⟨tw_513, tw_514, tw_515, tw_1, tw_516, ⟨by decide +kernel, by decide +kernel⟩, by decide +kernel⟩
theorem lk_X3_157 : LinkS RX3 157 yX3_isSheet cX3_isSheet 1 ((Option.some FieldType.boolean)) 1 := ⟨tw_517, tw_518, tw_1, tw_519, ⟨by decide +kernel, by decide +kernel⟩, by decide +kernel⟩
theorem lk_X3_161 : LinkVN RX3 161 RX1 yX1_layOut "NotedHouse" cX1_layOut 4 (none) 2 := ⟨tw_521, tw_523, ts_34, tw_4, tw_524, ⟨by decide +kernel, by decide +kernel⟩, by decide +kernel⟩
theorem lk_L_127 : LinkV RL 127 RX3 yX3_write cX3_write 8 ((Option.some FieldType.long)) 3 := ⟨tw_525, tw_526, tw_527, tw_1, tw_528, ⟨by decide +kernel, by decide +kernel⟩, by decide +kernel⟩
theorem lk_X3_167 : LinkVN RX3 167 RX1 yX1_isMissing "NotedHouse" cX1_isMissing 1 ((Option.some FieldType.boolean)) 0 := ⟨tw_529, tw_531, ts_35, tw_4, tw_532, ⟨by decide +kernel, by decide +kernel⟩, by decide +kernel⟩
theorem lk_X3_176 : LinkVN RX3 176 RX1 yX1_put "NotedHouse" cX1_put 4 (none) 2 := ⟨tw_534, tw_536, ts_36, tw_4, tw_537, ⟨by decide +kernel, by decide +kernel⟩, by decide +kernel⟩
theorem lk_L_132 : LinkV RL 132 RX3 yX3_copy cX3_copy 8 ((Option.some FieldType.int)) 5 := ⟨tw_538, tw_539, tw_540, tw_1, tw_541, ⟨by decide +kernel, by decide +kernel⟩, by decide +kernel⟩
theorem lk_X3_183 : LinkVN RX3 183 RX1 yX1_has "NotedHouse" cX1_has 3 ((Option.some FieldType.boolean)) 2 := ⟨tw_542, tw_544, ts_37, tw_4, tw_545, ⟨by decide +kernel, by decide +kernel⟩, by decide +kernel⟩
theorem lk_L_137 : LinkV RL 137 RX3 yX3_lays cX3_lays 5 ((Option.some FieldType.int)) 1 := ⟨tw_547, tw_548, tw_549, tw_1, tw_550, ⟨by decide +kernel, by decide +kernel⟩, by decide +kernel⟩
theorem lk_L_141 : LinkV RL 141 RX3 yX3_book cX3_book 6 ((Option.some FieldType.int)) 2 := ⟨tw_552, tw_553, tw_554, tw_1, tw_555, ⟨by decide +kernel, by decide +kernel⟩, by decide +kernel⟩
theorem lk_X3_194 : LinkV RX3 194 RX3 yX3_refusalOf cX3_refusalOf 3 ((Option.some FieldType.int)) 2 := ⟨tw_556, tw_558, ts_38, tw_1, tw_559, ⟨by decide +kernel, by decide +kernel⟩, by decide +kernel⟩
theorem lk_L_145 : LinkV RL 145 RX3 yX3_read cX3_read 7 ((Option.some FieldType.int)) 2 := ⟨tw_560, tw_561, tw_562, tw_1, tw_563, ⟨by decide +kernel, by decide +kernel⟩, by decide +kernel⟩
theorem lk_X3_197 : LinkV RX3 197 RX3 yX3_trialDoesAs cX3_trialDoesAs 4 ((Option.some FieldType.boolean)) 2 := ⟨tw_564, tw_566, ts_39, tw_1, tw_567, ⟨by decide +kernel, by decide +kernel⟩, by decide +kernel⟩
theorem lk_L_149 : LinkV RL 149 RX3 yX3_image cX3_image 1 ((Option.some FieldType.int)) 0 := ⟨tw_568, tw_569, tw_570, tw_1, tw_571, ⟨by decide +kernel, by decide +kernel⟩, by decide +kernel⟩
theorem lk_L_153 : LinkV RL 153 RX3 yX3_undo cX3_undo 1 ((Option.some FieldType.int)) 0 := ⟨tw_572, tw_573, tw_574, tw_1, tw_575, ⟨by decide +kernel, by decide +kernel⟩, by decide +kernel⟩
theorem lk_L_157 : LinkV RL 157 RX3 yX3_tear cX3_tear 2 ((Option.some FieldType.int)) 0 := ⟨tw_576, tw_577, tw_578, tw_1, tw_579, ⟨by decide +kernel, by decide +kernel⟩, by decide +kernel⟩
theorem lk_L_161 : LinkV RL 161 RX3 yX3_count cX3_count 2 ((Option.some FieldType.int)) 1 := ⟨tw_580, tw_581, tw_582, tw_1, tw_583, ⟨by decide +kernel, by decide +kernel⟩, by decide +kernel⟩
theorem lk_X3_201 : LinkVN RX3 201 RX0 yX0_allTense "NotedHouse" cX0_allTense 1 ((Option.some FieldType.int)) 0 := ⟨tw_584, tw_586, ts_40, tw_2, tw_587, ⟨by decide +kernel, by decide +kernel⟩, by decide +kernel⟩
theorem lk_L_165 : LinkV RL 165 RX3 yX3_status cX3_status 4 ((Option.some FieldType.int)) 1 := ⟨tw_588, tw_589, tw_590, tw_1, tw_591, ⟨by decide +kernel, by decide +kernel⟩, by decide +kernel⟩
theorem lk_L_17 : LinkV RL 17 RX4 yX4_play cX4_play 4 ((Option.some FieldType.int)) 3 := ⟨tw_653, tw_654, tw_655, tw_5, tw_656, ⟨by decide +kernel, by decide +kernel⟩, by decide +kernel⟩
theorem lk_X4_87 : LinkS RX4 87 yX4_isMoment cX4_isMoment 1 ((Option.some FieldType.boolean)) 1 := ⟨tw_657, tw_658, tw_5, tw_659, ⟨by decide +kernel, by decide +kernel⟩, by decide +kernel⟩
theorem lk_X4_46 : LinkS RX4 46 yX4_in cX4_in 6 ((Option.some FieldType.boolean)) 3 := ⟨tw_661, tw_662, tw_5, tw_663, ⟨by decide +kernel, by decide +kernel⟩, by decide +kernel⟩
theorem lk_X4_92 : LinkV RX4 92 RX4 yX4_finds cX4_finds 2 ((Option.some FieldType.int)) 1 := ⟨tw_666, tw_668, ts_41, tw_5, tw_669, ⟨by decide +kernel, by decide +kernel⟩, by decide +kernel⟩
theorem lk_X4_95 : LinkV RX4 95 RX4 yX4_becomes cX4_becomes 4 ((Option.some FieldType.int)) 2 := ⟨tw_671, tw_673, ts_42, tw_5, tw_674, ⟨by decide +kernel, by decide +kernel⟩, by decide +kernel⟩
theorem lk_L_22 : LinkV RL 22 RX4 yX4_now cX4_now 2 ((Option.some FieldType.int)) 1 := ⟨tw_675, tw_676, tw_677, tw_5, tw_678, ⟨by decide +kernel, by decide +kernel⟩, by decide +kernel⟩
theorem lk_X4_98 : LinkV RX4 98 RX4 yX4_sumOf cX4_sumOf 4 ((Option.some FieldType.int)) 1 := ⟨tw_679, tw_681, ts_43, tw_5, tw_682, ⟨by decide +kernel, by decide +kernel⟩, by decide +kernel⟩
theorem lk_X4_54 : LinkV RX4 54 RX4 yX4_its cX4_its 3 ((Option.some FieldType.int)) 2 := ⟨tw_683, tw_685, ts_44, tw_5, tw_686, ⟨by decide +kernel, by decide +kernel⟩, by decide +kernel⟩
theorem lk_X4_101 : LinkV RX4 101 RX4 yX4_doers cX4_doers 7 ((Option.some FieldType.int)) 2 := ⟨tw_687, tw_689, ts_45, tw_5, tw_690, ⟨by decide +kernel, by decide +kernel⟩, by decide +kernel⟩
theorem lk_X4_66 : LinkV RX4 66 RX4 yX4_doesNow cX4_doesNow 6 ((Option.some FieldType.int)) 1 := ⟨tw_691, tw_693, ts_46, tw_5, tw_694, ⟨by decide +kernel, by decide +kernel⟩, by decide +kernel⟩
theorem lk_X4_58 : LinkV RX4 58 RX4 yX4_isBeside cX4_isBeside 3 ((Option.some FieldType.boolean)) 2 := ⟨tw_695, tw_697, ts_47, tw_5, tw_698, ⟨by decide +kernel, by decide +kernel⟩, by decide +kernel⟩
theorem lk_X4_50 : LinkV RX4 50 RX4 yX4_isPerson cX4_isPerson 2 ((Option.some FieldType.boolean)) 1 := ⟨tw_699, tw_701, ts_48, tw_5, tw_702, ⟨by decide +kernel, by decide +kernel⟩, by decide +kernel⟩
theorem lk_L_26 : LinkV RL 26 RX4 yX4_person cX4_person 2 ((Option.some FieldType.int)) 1 := ⟨tw_703, tw_704, tw_705, tw_5, tw_706, ⟨by decide +kernel, by decide +kernel⟩, by decide +kernel⟩
theorem lk_X4_107 : LinkV RX4 107 RX4 yX4_comesIn cX4_comesIn 3 ((Option.some FieldType.int)) 1 := ⟨tw_708, tw_710, ts_49, tw_5, tw_711, ⟨by decide +kernel, by decide +kernel⟩, by decide +kernel⟩
theorem lk_X4_73 : LinkV RX4 73 RX4 yX4_sets cX4_sets 4 (none) 3 := ⟨tw_712, tw_714, ts_50, tw_5, tw_715, ⟨by decide +kernel, by decide +kernel⟩, by decide +kernel⟩
theorem lk_L_31 : LinkV RL 31 RX4 yX4_of cX4_of 3 ((Option.some FieldType.int)) 2 := ⟨tw_716, tw_717, tw_718, tw_5, tw_719, ⟨by decide +kernel, by decide +kernel⟩, by decide +kernel⟩
theorem lk_X4_77 : LinkV RX4 77 RX4 yX4_stales cX4_stales 2 ((Option.some FieldType.int)) 1 := ⟨tw_720, tw_722, ts_51, tw_5, tw_723, ⟨by decide +kernel, by decide +kernel⟩, by decide +kernel⟩
theorem lk_L_35 : LinkV RL 35 RX4 yX4_scores cX4_scores 4 ((Option.some FieldType.int)) 3 := ⟨tw_724, tw_725, tw_726, tw_5, tw_727, ⟨by decide +kernel, by decide +kernel⟩, by decide +kernel⟩
theorem lk_X4_110 : LinkS RX4 110 yX4_isDone cX4_isDone 1 ((Option.some FieldType.boolean)) 1 := ⟨tw_728, tw_729, tw_5, tw_730, ⟨by decide +kernel, by decide +kernel⟩, by decide +kernel⟩
theorem lk_X4_70 : LinkV RX4 70 RX4 yX4_scoresFor cX4_scoresFor 7 ((Option.some FieldType.int)) 3 := ⟨tw_731, tw_733, ts_52, tw_5, tw_734, ⟨by decide +kernel, by decide +kernel⟩, by decide +kernel⟩
theorem lk_X4_62 : LinkS RX4 62 yX4_held cX4_held 3 ((Option.some FieldType.int)) 3 := ⟨tw_735, tw_736, tw_5, tw_737, ⟨by decide +kernel, by decide +kernel⟩, by decide +kernel⟩
theorem lk_L_39 : LinkV RL 39 RX4 yX4_set cX4_set 5 ((Option.some FieldType.int)) 3 := ⟨tw_738, tw_739, tw_740, tw_5, tw_741, ⟨by decide +kernel, by decide +kernel⟩, by decide +kernel⟩
theorem lk_L_43 : LinkV RL 43 RX4 yX4_turn cX4_turn 3 ((Option.some FieldType.int)) 2 := ⟨tw_745, tw_746, tw_747, tw_5, tw_748, ⟨by decide +kernel, by decide +kernel⟩, by decide +kernel⟩
theorem lk_L_47 : LinkV RL 47 RX4 yX4_as cX4_as 4 ((Option.some FieldType.int)) 2 := ⟨tw_749, tw_750, tw_751, tw_5, tw_752, ⟨by decide +kernel, by decide +kernel⟩, by decide +kernel⟩
theorem lk_L_51 : LinkV RL 51 RX4 yX4_swap cX4_swap 3 ((Option.some FieldType.int)) 2 := ⟨tw_753, tw_754, tw_755, tw_5, tw_756, ⟨by decide +kernel, by decide +kernel⟩, by decide +kernel⟩
theorem lk_X4_119 : LinkV RX4 119 RX4 yX4_swaps cX4_swaps 5 (none) 2 := ⟨tw_757, tw_759, ts_53, tw_5, tw_760, ⟨by decide +kernel, by decide +kernel⟩, by decide +kernel⟩
theorem lk_L_55 : LinkV RL 55 RX4 yX4_moments cX4_moments 2 ((Option.some FieldType.int)) 1 := ⟨tw_761, tw_762, tw_763, tw_5, tw_764, ⟨by decide +kernel, by decide +kernel⟩, by decide +kernel⟩
theorem lk_X4_125 : LinkV RX4 125 RX4 yX4_momentsGo cX4_momentsGo 3 (none) 1 := ⟨tw_766, tw_768, ts_54, tw_5, tw_769, ⟨by decide +kernel, by decide +kernel⟩, by decide +kernel⟩
theorem lk_X4_80 : LinkV RX4 80 RX4 yX4_momentGoes cX4_momentGoes 3 (none) 0 := ⟨tw_770, tw_772, ts_55, tw_5, tw_773, ⟨by decide +kernel, by decide +kernel⟩, by decide +kernel⟩
theorem lk_L_59 : LinkV RL 59 RX4 yX4_note cX4_note 3 ((Option.some FieldType.int)) 2 := ⟨tw_774, tw_775, tw_776, tw_5, tw_777, ⟨by decide +kernel, by decide +kernel⟩, by decide +kernel⟩
theorem lk_X4_137 : LinkS RX4 137 yX4_isAhead cX4_isAhead 1 ((Option.some FieldType.boolean)) 1 := ⟨tw_778, tw_779, tw_5, tw_780, ⟨by decide +kernel, by decide +kernel⟩, by decide +kernel⟩
theorem lk_X4_129 : LinkS RX4 129 yX4_copies cX4_copies 3 (none) 2 := ⟨tw_782, tw_783, tw_5, tw_784, ⟨by decide +kernel, by decide +kernel⟩, by decide +kernel⟩
theorem lk_X4_140 : LinkV RX4 140 RX4 yX4_whereNote cX4_whereNote 2 ((Option.some FieldType.int)) 1 := ⟨tw_785, tw_787, ts_56, tw_5, tw_788, ⟨by decide +kernel, by decide +kernel⟩, by decide +kernel⟩
theorem lk_X4_143 : LinkV RX4 143 RX4 yX4_behind cX4_behind 4 ((Option.some FieldType.int)) 2 := ⟨tw_789, tw_791, ts_57, tw_5, tw_792, ⟨by decide +kernel, by decide +kernel⟩, by decide +kernel⟩
theorem lk_L_63 : LinkV RL 63 RX4 yX4_on cX4_on 4 ((Option.some FieldType.int)) 3 := ⟨tw_793, tw_794, tw_795, tw_5, tw_796, ⟨by decide +kernel, by decide +kernel⟩, by decide +kernel⟩
theorem lk_L_67 : LinkV RL 67 RX4 yX4_house cX4_house 2 ((Option.some FieldType.int)) 1 := ⟨tw_797, tw_798, tw_799, tw_5, tw_800, ⟨by decide +kernel, by decide +kernel⟩, by decide +kernel⟩
theorem lk_X4_146 : LinkV RX4 146 RX4 yX4_houseBehind cX4_houseBehind 3 ((Option.some FieldType.int)) 1 := ⟨tw_801, tw_803, ts_58, tw_5, tw_804, ⟨by decide +kernel, by decide +kernel⟩, by decide +kernel⟩
theorem lk_L_71 : LinkV RL 71 RX4 yX4_heard cX4_heard 4 ((Option.some FieldType.int)) 2 := ⟨tw_805, tw_806, tw_807, tw_5, tw_808, ⟨by decide +kernel, by decide +kernel⟩, by decide +kernel⟩
theorem lk_L_75 : LinkV RL 75 RX4 yX4_does cX4_does 5 ((Option.some FieldType.int)) 2 := ⟨tw_809, tw_810, tw_811, tw_5, tw_812, ⟨by decide +kernel, by decide +kernel⟩, by decide +kernel⟩
theorem lk_L_79 : LinkV RL 79 RX4 yX4_comes cX4_comes 5 ((Option.some FieldType.int)) 2 := ⟨tw_813, tw_814, tw_815, tw_5, tw_816, ⟨by decide +kernel, by decide +kernel⟩, by decide +kernel⟩
theorem lk_L_83 : LinkV RL 83 RX4 yX4_place cX4_place 7 ((Option.some FieldType.int)) 2 := ⟨tw_817, tw_818, tw_819, tw_5, tw_820, ⟨by decide +kernel, by decide +kernel⟩, by decide +kernel⟩
theorem lk_X4_149 : LinkS RX4 149 yX4_isShort cX4_isShort 1 ((Option.some FieldType.boolean)) 1 := ⟨tw_821, tw_822, tw_5, tw_823, ⟨by decide +kernel, by decide +kernel⟩, by decide +kernel⟩
theorem lk_L_87 : LinkV RL 87 RX4 yX4_kind cX4_kind 7 ((Option.some FieldType.int)) 2 := ⟨tw_825, tw_826, tw_827, tw_5, tw_828, ⟨by decide +kernel, by decide +kernel⟩, by decide +kernel⟩
theorem lk_L_91 : LinkV RL 91 RX4 yX4_fresh cX4_fresh 5 ((Option.some FieldType.int)) 3 := ⟨tw_829, tw_830, tw_831, tw_5, tw_832, ⟨by decide +kernel, by decide +kernel⟩, by decide +kernel⟩
theorem lk_L_95 : LinkV RL 95 RX4 yX4_cue cX4_cue 6 ((Option.some FieldType.int)) 1 := ⟨tw_833, tw_834, tw_835, tw_5, tw_836, ⟨by decide +kernel, by decide +kernel⟩, by decide +kernel⟩
theorem lk_L_99 : LinkV RL 99 RX4 yX4_doze cX4_doze 6 ((Option.some FieldType.int)) 1 := ⟨tw_839, tw_840, tw_841, tw_5, tw_842, ⟨by decide +kernel, by decide +kernel⟩, by decide +kernel⟩
theorem lk_L_103 : LinkV RL 103 RX4 yX4_tense cX4_tense 5 ((Option.some FieldType.int)) 2 := ⟨tw_844, tw_845, tw_846, tw_5, tw_847, ⟨by decide +kernel, by decide +kernel⟩, by decide +kernel⟩
theorem lk_L_107 : LinkV RL 107 RX4 yX4_best cX4_best 4 ((Option.some FieldType.int)) 1 := ⟨tw_848, tw_849, tw_850, tw_5, tw_851, ⟨by decide +kernel, by decide +kernel⟩, by decide +kernel⟩
theorem lk_L_111 : LinkV RL 111 RX4 yX4_feed cX4_feed 4 ((Option.some FieldType.int)) 2 := ⟨tw_852, tw_853, tw_854, tw_5, tw_855, ⟨by decide +kernel, by decide +kernel⟩, by decide +kernel⟩
theorem lk_L_116 : LinkV RL 116 RX4 yX4_wipe cX4_wipe 2 ((Option.some FieldType.int)) 0 := ⟨tw_856, tw_857, tw_858, tw_5, tw_859, ⟨by decide +kernel, by decide +kernel⟩, by decide +kernel⟩
theorem lk_L_120 : LinkV RL 120 RX4 yX4_evening cX4_evening 2 ((Option.some FieldType.int)) 0 := ⟨tw_860, tw_861, tw_862, tw_5, tw_863, ⟨by decide +kernel, by decide +kernel⟩, by decide +kernel⟩
theorem lk_X4_260 : LinkV RX4 260 RX4 yX4_items cX4_items 2 ((Option.some FieldType.int)) 0 := ⟨tw_864, tw_866, ts_59, tw_5, tw_867, ⟨by decide +kernel, by decide +kernel⟩, by decide +kernel⟩
theorem lk_X4_224 : LinkV RX4 224 RX4 yX4_next cX4_next 2 (none) 0 := ⟨tw_868, tw_870, ts_60, tw_5, tw_871, ⟨by decide +kernel, by decide +kernel⟩, by decide +kernel⟩
theorem lk_X4_163 : LinkV RX4 163 RX4 yX4_byteAt cX4_byteAt 2 ((Option.some FieldType.int)) 1 := ⟨tw_872, tw_874, ts_61, tw_5, tw_875, ⟨by decide +kernel, by decide +kernel⟩, by decide +kernel⟩
theorem lk_X4_176 : LinkS RX4 176 yX4_letter cX4_letter 1 ((Option.some FieldType.int)) 1 := ⟨tw_876, tw_877, tw_5, tw_878, ⟨by decide +kernel, by decide +kernel⟩, by decide +kernel⟩
theorem lk_X4_183 : LinkS RX4 183 yX4_isDigit cX4_isDigit 1 ((Option.some FieldType.boolean)) 1 := ⟨tw_881, tw_882, tw_5, tw_883, ⟨by decide +kernel, by decide +kernel⟩, by decide +kernel⟩
theorem lk_X4_257 : LinkV RX4 257 RX4 yX4_item cX4_item 2 (none) 0 := ⟨tw_887, tw_889, ts_62, tw_5, tw_890, ⟨by decide +kernel, by decide +kernel⟩, by decide +kernel⟩
theorem lk_X4_236 : LinkV RX4 236 RX4 yX4_kindHere cX4_kindHere 1 ((Option.some FieldType.int)) 0 := ⟨tw_891, tw_893, ts_63, tw_5, tw_894, ⟨by decide +kernel, by decide +kernel⟩, by decide +kernel⟩
theorem lk_X4_197 : LinkV RX4 197 RX4 yX4_isWord cX4_isWord 3 ((Option.some FieldType.boolean)) 1 := ⟨tw_896, tw_898, ts_64, tw_5, tw_899, ⟨by decide +kernel, by decide +kernel⟩, by decide +kernel⟩
theorem lk_X4_239 : LinkV RX4 239 RX4 yX4_personHere cX4_personHere 3 (none) 1 := ⟨tw_905, tw_907, ts_65, tw_5, tw_908, ⟨by decide +kernel, by decide +kernel⟩, by decide +kernel⟩
theorem lk_X4_221 : LinkV RX4 221 RX4 yX4_wrongHere cX4_wrongHere 1 (none) 0 := ⟨tw_909, tw_911, ts_66, tw_5, tw_912, ⟨by decide +kernel, by decide +kernel⟩, by decide +kernel⟩
theorem lk_X4_229 : LinkV RX4 229 RX4 yX4_numberHere cX4_numberHere 4 ((Option.some FieldType.int)) 2 := ⟨tw_914, tw_916, ts_67, tw_5, tw_917, ⟨by decide +kernel, by decide +kernel⟩, by decide +kernel⟩
theorem lk_X4_244 : LinkV RX4 244 RX4 yX4_cueItem cX4_cueItem 3 (none) 0 := ⟨tw_919, tw_921, ts_68, tw_5, tw_922, ⟨by decide +kernel, by decide +kernel⟩, by decide +kernel⟩
theorem lk_X4_232 : LinkV RX4 232 RX4 yX4_cueHere cX4_cueHere 1 ((Option.some FieldType.int)) 0 := ⟨tw_923, tw_925, ts_69, tw_5, tw_926, ⟨by decide +kernel, by decide +kernel⟩, by decide +kernel⟩
theorem lk_X4_249 : LinkV RX4 249 RX4 yX4_tenseItem cX4_tenseItem 3 (none) 0 := ⟨tw_933, tw_935, ts_70, tw_5, tw_936, ⟨by decide +kernel, by decide +kernel⟩, by decide +kernel⟩
theorem lk_X4_254 : LinkV RX4 254 RX4 yX4_swapItem cX4_swapItem 3 (none) 0 := ⟨tw_938, tw_940, ts_71, tw_5, tw_941, ⟨by decide +kernel, by decide +kernel⟩, by decide +kernel⟩
theorem lk_L_124 : LinkV RL 124 RX4 yX4_sheet cX4_sheet 5 ((Option.some FieldType.int)) 3 := ⟨tw_942, tw_943, tw_944, tw_5, tw_945, ⟨by decide +kernel, by decide +kernel⟩, by decide +kernel⟩
theorem lk_X4_265 : LinkS RX4 265 yX4_isSheet cX4_isSheet 1 ((Option.some FieldType.boolean)) 1 := ⟨tw_946, tw_947, tw_5, tw_948, ⟨by decide +kernel, by decide +kernel⟩, by decide +kernel⟩
theorem lk_L_131 : LinkV RL 131 RX4 yX4_write cX4_write 8 ((Option.some FieldType.long)) 3 := ⟨tw_950, tw_951, tw_952, tw_5, tw_953, ⟨by decide +kernel, by decide +kernel⟩, by decide +kernel⟩
theorem lk_X4_268 : LinkV RX4 268 RX4 yX4_whyNone cX4_whyNone 2 ((Option.some FieldType.int)) 1 := ⟨tw_954, tw_956, ts_72, tw_5, tw_957, ⟨by decide +kernel, by decide +kernel⟩, by decide +kernel⟩
theorem lk_X4_271 : LinkV RX4 271 RX4 yX4_puts cX4_puts 5 (none) 3 := ⟨tw_958, tw_960, ts_73, tw_5, tw_961, ⟨by decide +kernel, by decide +kernel⟩, by decide +kernel⟩
theorem lk_L_136 : LinkV RL 136 RX4 yX4_copy cX4_copy 7 ((Option.some FieldType.int)) 5 := ⟨tw_962, tw_963, tw_964, tw_5, tw_965, ⟨by decide +kernel, by decide +kernel⟩, by decide +kernel⟩
theorem lk_L_140 : LinkV RL 140 RX4 yX4_lays cX4_lays 5 ((Option.some FieldType.int)) 1 := ⟨tw_966, tw_967, tw_968, tw_5, tw_969, ⟨by decide +kernel, by decide +kernel⟩, by decide +kernel⟩
theorem lk_L_144 : LinkV RL 144 RX4 yX4_book cX4_book 5 ((Option.some FieldType.int)) 2 := ⟨tw_970, tw_971, tw_972, tw_5, tw_973, ⟨by decide +kernel, by decide +kernel⟩, by decide +kernel⟩
theorem lk_L_148 : LinkV RL 148 RX4 yX4_read cX4_read 8 ((Option.some FieldType.int)) 2 := ⟨tw_974, tw_975, tw_976, tw_5, tw_977, ⟨by decide +kernel, by decide +kernel⟩, by decide +kernel⟩
theorem lk_L_152 : LinkV RL 152 RX4 yX4_image cX4_image 1 ((Option.some FieldType.int)) 0 := ⟨tw_978, tw_979, tw_980, tw_5, tw_981, ⟨by decide +kernel, by decide +kernel⟩, by decide +kernel⟩
theorem lk_L_156 : LinkV RL 156 RX4 yX4_undo cX4_undo 1 ((Option.some FieldType.int)) 0 := ⟨tw_982, tw_983, tw_984, tw_5, tw_985, ⟨by decide +kernel, by decide +kernel⟩, by decide +kernel⟩
theorem lk_L_160 : LinkV RL 160 RX4 yX4_tear cX4_tear 2 ((Option.some FieldType.int)) 0 := ⟨tw_986, tw_987, tw_988, tw_5, tw_989, ⟨by decide +kernel, by decide +kernel⟩, by decide +kernel⟩
theorem lk_L_164 : LinkV RL 164 RX4 yX4_count cX4_count 4 ((Option.some FieldType.int)) 1 := ⟨tw_990, tw_991, tw_992, tw_5, tw_993, ⟨by decide +kernel, by decide +kernel⟩, by decide +kernel⟩
theorem lk_L_168 : LinkV RL 168 RX4 yX4_status cX4_status 4 ((Option.some FieldType.int)) 1 := ⟨tw_994, tw_995, tw_996, tw_5, tw_997, ⟨by decide +kernel, by decide +kernel⟩, by decide +kernel⟩
theorem inX0 : ∀ w ∈ wsX00, w ∈ tbl := by decide +kernel
theorem inX1 : ∀ w ∈ wsX10, w ∈ tbl := by decide +kernel
theorem inX2 : ∀ w ∈ wsX20, w ∈ tbl := by decide +kernel
theorem inX3 : ∀ w ∈ wsX30, w ∈ tbl := by decide +kernel
theorem inX4 : ∀ w ∈ wsX40, w ∈ tbl := by decide +kernel
end
