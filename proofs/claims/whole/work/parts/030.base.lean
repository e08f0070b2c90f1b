def st_idx : List Nat := [38, 115, 117, 119, 121, 123, 47, 52, 103, 105, 107, 109, 111, 113, 73]
def st_tx : List String := ["cue", "sob", "laugh", "cough", "clap", "still", "tense", "swap", "cougher", "weeper", "sleeper", "claque", "widow", "sitter", "fresh"]
def st_len : List Nat := [3, 3, 5, 5, 4, 5, 5, 4, 7, 6, 7, 6, 5, 6, 5]
def st_byt : List (List Int32) := [[99, 117, 101], [115, 111, 98], [108, 97, 117, 103, 104], [99, 111, 117, 103, 104], [99, 108, 97, 112], [115, 116, 105, 108, 108], [116, 101, 110, 115, 101], [115, 119, 97, 112], [99, 111, 117, 103, 104, 101, 114], [119, 101, 101, 112, 101, 114], [115, 108, 101, 101, 112, 101, 114], [99, 108, 97, 113, 117, 101], [119, 105, 100, 111, 119], [115, 105, 116, 116, 101, 114], [102, 114, 101, 115, 104]]
/-! BASE: one environment for all methods (the tables' words, the tables' classes, the statics and literals), one form of contract, the rows for calls and returns over it -/
abbrev FI : Type := Nat → Int32
abbrev FL : Type := Nat → Int64
abbrev EV : Type := va_G × (Nat → ClassId) × Nat × (Nat → Nat) × (Nat → Nat)
def tysE (E : EV) : List (ClassId × FieldType) := [(E.2.1 0, .int), (E.2.1 1, .long), (E.2.1 2, .byte), (E.2.1 3, .object "NotedHouse$Sheet")]
def wkN : Cond → Bool
  | .fieldLinkNest _ _ _ _ _ _ => true
  | .methodLinkNest _ _ _ _ => true
  | w => goodWord w
/-- the words that hold on, wherever a call goes -/
def tbl : List Cond := lw_tbl.filter wkN
theorem tb_in {w : Cond} (h : w ∈ lw_tbl) (hk : wkN w = true) : w ∈ tbl := List.mem_filter.mpr ⟨h, hk⟩
theorem tb_ok : ∀ w ∈ tbl, wkN w = true := fun _ hw => (List.mem_filter.mp hw).2
theorem tb_warm {s U : State} (hW : s.WarmedH U.vm) (w : Cond) (hk : wkN w = true) {a0 : Array Value} (h : w.before a0 s = true) (a : Array Value) : w.before a U = true := by
  cases w
  all_goals first
    | exact word_at hW (good_of_word hk) h
    | exact va_Nw.use rfl (va_Nw.warmF hW (va_Nw.of rfl h))
    | exact va_Nw.use rfl (va_Nw.warmM hW (va_Nw.of rfl h))
def ka_f (j : Nat) : Int32 := [(-1 : Int32), 0, 0, 0, 1, 2].getD j 0
def EvS (E : EV) (A : Nat → Prop) (U : State) : Prop :=
  va_Z "NotedHouse" "KIND_ABOVE" "[I" (.ref E.2.2.1) A U U.heap ∧ va_T .int E.2.2.1 6 (fun j => .int (ka_f j)) A U U.heap ∧
  va_Z "java/lang/String" "COMPACT_STRINGS" "Z" (.int 1) A U U.heap ∧ va_Zq "jdk/internal/util/Preconditions" "SIOOBE_FORMATTER" "Ljava/util/function/BiFunction;" A U U.heap ∧
  vk_S 15 st_len st_byt E.2.2.2.1 E.2.2.2.2 A U U.heap ∧ ∀ i, i < 15 → vk_R "NotedHouse$Text" (st_idx.getD i 0) (st_tx.getD i "") (E.2.2.2.1 i) U
def Ev (E : EV) (A : Nat → Prop) (U : State) : Prop := (∀ w ∈ tbl, ∀ a : Array Value, w.before a U = true) ∧ va_K E.1 vwCl (tysE E) U ∧ EvS E A U
theorem Ev.w {E : EV} {A : Nat → Prop} {s : State} (hE : Ev E A s) {w : Cond} (hw : w ∈ tbl) {args : Array Value} : w.before args s = true := hE.1 w hw args
theorem Ev.go {E : EV} {A B : Nat → Prop} {s U : State} {H : Heap} {locs : List Loc} (hE : Ev E A s) (hS : va_S A s.heap H locs) (hU : U.heap = H) (hW : s.WarmedH U.vm) (hB : ∀ q, B q → A q) : Ev E B U := by
  obtain ⟨h1, h2, z1, z2, z3, z4, z5, z6⟩ := hE
  subst hU
  have hk : ∀ a : Nat, a < s.heap.size → ¬ A a → U.heap[a]? = s.heap[a]? := hS.2.1
  refine ⟨fun w hw a => tb_warm hW w (tb_ok w hw) (h1 w hw #[]) a, va_K.moved hW.alike h2, ?_, ?_, ?_, ?_, ?_, ?_⟩
  · exact ((z1.kept hk).narrow hB).moved hW.alike
  · exact ((z2.kept hk).narrow hB).moved hW.alike
  · exact ((z3.kept hk).narrow hB).moved hW.alike
  · exact ((z4.kept hk).narrow hB).moved hW.alike
  · exact ((z5.kept hk).narrow hB).moved hW.alike
  · exact fun i hi => (z6 i hi).warm hW
theorem Ev.call {E : EV} {A : Nat → Prop} {U : State} (hE : Ev E A U) (g : JFrame) (mk : MethodId) (a : Array Value) : Ev E A (U.calling g mk a) :=
  Ev.go (H := U.heap) (locs := []) hE va_S.rf rfl (State.WarmedH.refl U) (fun _ h => h)
/-- a room of f frames and n words of locals, without cells -/
abbrev rmk (f n : Nat) : Room := { frames := f, cells := 0, slots := 0, locals := n }
def Pct (E : EV) (av : List Value) (w0 : va_W) (sz : Nat) : Array Value → State → Prop := va_Pc av (fun U => U.heap.size = sz ∧ va_P E.1 vwCl w0 U.heap ∧ va_D (fun _ => True) w0 ∧ Ev E (va_A w0 sz) U)
def Qct (E : EV) (A : Nat → Prop) (w1 : va_W) (ov : Option Value) : Array Value → State → Outcome → State → Prop := fun _ st oc t => oc = .returned ov ∧ va_P E.1 vwCl w1 t.heap ∧ va_D A w1 ∧ va_F A st t
/-- THE CONTRACT: from the world w0 the method y answers ov and leaves the world w1 -/
def Ct (l : Launch) (E : EV) (y : MethodName) (bytes : ByteArray) (maxL : Nat) (ret : Option FieldType) (rm : Room) (av : List Value) (w0 w1 : va_W) (ov : Option Value) : Prop :=
  ∀ sz : Nat, Met l y [Cond.code y bytes maxL ret] rm (Pct E av w0 sz) (Qct E (va_A w0 sz) w1 ov) 0 0 (va_A w0 sz)
theorem Pct.blind {E : EV} {av : List Value} {w0 : va_W} {sz : Nat} : FrameBlind (Pct E av w0 sz) := by
  intro a U g mk q
  obtain ⟨q0, q1, qP, qD, qE⟩ := q
  exact ⟨q0, q1, qP, qD, qE.call g mk a⟩
/-- what a walk of a method's body has at hand -/
def Cx (E : EV) (y : MethodName) (bytes : ByteArray) (maxL : Nat) (ret : Option FieldType) (p : Program) (s : State) (m : MethodId) (meth : Method) (c : Code) (A : Nat → Prop) : Prop :=
  p.tables.exec = Jvm.exec ∧ c.code = bytes ∧ meth.sig.returnType = ret ∧ c.maxLocals = maxL ∧ s.vm.findClass y.cls = some m.cls ∧ meth.locks = false ∧ Ev E A s ∧ ∀ q : Nat, s.heap.size ≤ q → A q
theorem Ct.of {l : Launch} {E : EV} {y : MethodName} {bytes : ByteArray} {maxL : Nat} {ret : Option FieldType} {rm : Room} {av : List Value} {w0 w1 : va_W} {ov : Option Value} (hy : plainName y.cls = true) (hlen : (lg_sl av).length ≤ maxL)
    (body : ∀ (p : Program) (e : Env) (s : State) (m : MethodId) (below : List Frame) (meth : Method) (c : Code) (A : Nat → Prop) (ls : Array Slot), Cx E y bytes maxL ret p s m meth c A → va_P E.1 vwCl w0 s.heap → va_D A w0 → lv_has ls maxL (lv_args 0 av) →
      W p l e rm s m av.toArray below meth c s.heap [] 0 0 (MQ below (Qct E A w1 ov) av.toArray s 0 0 A) (F0 m 0 ls [])) : Ct l E y bytes maxL ret rm av w0 w1 ov := by
  intro sz
  refine Met.ofW (cc := bytes) (maxL := maxL) (ret := ret) hy rfl ?_
  intro p e s m args below meth c s₁ B hml hv
  obtain ⟨rfl, hsz, hP, hD0, hE⟩ := hv
  subst hsz
  have hD := hD0.self (sz := s.heap.size)
  generalize hAe : va_A w0 s.heap.size = A at hD hE ⊢
  have hA : ∀ q : Nat, s.heap.size ≤ q → A q := fun q h => by rw [← hAe]; exact Or.inr h
  rw [lg_entry_eq]
  exact body p e s m below meth c A _ ⟨B.exec, B.bytes, B.returns, hml, findClass_of_methodNamed B.named, B.notSynchronized, hE, hA⟩ hP hD (lv_entry av hlen)
theorem vaP_mem {D : va_G} {cl : List vw_C} {ws : va_W} {H : Heap} : va_P D cl ws H ↔ ∀ q ∈ ws, va_at D cl q H :=
  ⟨fun h q hq => by obtain ⟨i, hi⟩ := List.getElem?_of_mem hq; exact h i q hi, fun h k q hq => h q (List.mem_of_getElem? hq)⟩
theorem vaD_pw {A : Nat → Prop} {ws : va_W} : va_D A ws ↔ ws.Pairwise (fun x y => x.1 ≠ y.1) ∧ ∀ q ∈ ws, A q.1 := by
  constructor
  · intro h
    refine ⟨List.pairwise_iff_getElem.mpr (fun i j hi hj hij he => ?_), fun q hq => ?_⟩
    · have := h.1 i j _ _ (List.getElem?_eq_getElem hi) (List.getElem?_eq_getElem hj) he
      omega
    · obtain ⟨i, hi⟩ := List.getElem?_of_mem hq
      exact h.2 i q hi
  · intro ⟨h1, h2⟩
    refine ⟨fun i j p q hi hj he => ?_, fun k q hq => h2 q (List.mem_of_getElem? hq)⟩
    obtain ⟨hi', ei⟩ := List.getElem?_eq_some_iff.mp hi
    obtain ⟨hj', ej⟩ := List.getElem?_eq_some_iff.mp hj
    subst ei; subst ej
    rcases Nat.lt_trichotomy i j with hlt | heq | hgt
    · exact absurd he (List.pairwise_iff_getElem.mp h1 i j hi' hj' hlt)
    · exact heq
    · exact absurd he.symm (List.pairwise_iff_getElem.mp h1 j i hj' hi' hgt)
/-- behind a call: the callee's part of the world changed, the rest stands where it stood -/
theorem wj {A0 : Nat → Prop} {D : va_G} {cl : List vw_C} {X Y w0 w1 : va_W} {H H1 : Heap} (hP : va_P D cl (X ++ (w0 ++ Y)) H) (hD : va_D A0 (X ++ (w0 ++ Y))) (hk : ∀ q : Nat, q < H.size → ¬ va_A w0 H.size q → H1[q]? = H[q]?) (hF : ∀ q, va_A w0 H.size q → A0 q) (hP1 : va_P D cl w1 H1) (hD1 : va_D (va_A w0 H.size) w1) : va_P D cl (X ++ (w1 ++ Y)) H1 ∧ va_D A0 (X ++ (w1 ++ Y)) := by
  rw [vaP_mem] at hP hP1
  rw [vaD_pw] at hD hD1
  obtain ⟨hpw, hA⟩ := hD
  obtain ⟨pX, pW, dX⟩ := List.pairwise_append.mp hpw
  obtain ⟨p0, pY, d0⟩ := List.pairwise_append.mp pW
  have aX : ∀ q ∈ X, ¬ va_A w0 H.size q.1 := by
    intro q hq h
    rcases h with ⟨k, e, h⟩ | h
    · exact dX q hq (q.1, e) (List.mem_append_left _ (List.mem_of_getElem? h)) rfl
    · have := (hP q (List.mem_append_left _ hq)).lt
      omega
  have aY : ∀ q ∈ Y, ¬ va_A w0 H.size q.1 := by
    intro q hq h
    rcases h with ⟨k, e, h⟩ | h
    · exact d0 (q.1, e) (List.mem_of_getElem? h) q hq rfl
    · have := (hP q (List.mem_append_right _ (List.mem_append_right _ hq))).lt
      omega
  have sX : ∀ q ∈ X, va_at D cl q H1 := fun q hq => (hP q (List.mem_append_left _ hq)).kept (hk q.1 (hP q (List.mem_append_left _ hq)).lt (aX q hq))
  have sY : ∀ q ∈ Y, va_at D cl q H1 := fun q hq => (hP q (List.mem_append_right _ (List.mem_append_right _ hq))).kept (hk q.1 (hP q (List.mem_append_right _ (List.mem_append_right _ hq))).lt (aY q hq))
  rw [vaP_mem, vaD_pw]
  refine ⟨fun q hq => ?_, List.pairwise_append.mpr ⟨pX, List.pairwise_append.mpr ⟨hD1.1, pY, ?_⟩, ?_⟩, fun q hq => ?_⟩
  · rcases List.mem_append.mp hq with h | h
    · exact sX q h
    · rcases List.mem_append.mp h with h | h
      · exact hP1 q h
      · exact sY q h
  · intro a ha b hb he
    exact aY b hb (by rw [← he]; exact hD1.2 a ha)
  · intro a ha b hb he
    rcases List.mem_append.mp hb with h | h
    · exact aX a ha (by rw [he]; exact hD1.2 b h)
    · exact dX a ha b (List.mem_append_right _ h) he
  · rcases List.mem_append.mp hq with h | h
    · exact hA q (List.mem_append_left _ h)
    · rcases List.mem_append.mp h with h | h
      · exact hF q.1 (hD1.2 q h)
      · exact hA q (List.mem_append_right _ (List.mem_append_right _ h))
section CTG
variable {p : Program} {l : Launch} {e : Env} {R : Room} {s : State} {m : MethodId} {args : Array Value} {below : List Frame} {meth : Method} {c : Code} {H : Heap} {locs : List Loc} {cells slots : Nat} {Q : State → Prop}
variable {pc : Nat} {ls : Array Slot} {rest st0 : List Value} {E : EV} {A : Nat → Prop} {w w' w0 w1 : va_W} {ov : Option Value} {aa : Array Value}
theorem ct_free {X Y : va_W} (hw : w = X ++ (w0 ++ Y)) (hD : va_D A w) (hS : va_S A s.heap H locs) (hA : ∀ q : Nat, s.heap.size ≤ q → A q) : ∀ q, va_A w0 H.size q → A q := by
  intro q h
  rw [hw, vaD_pw] at hD
  rcases h with ⟨k, e, h⟩ | h
  · exact hD.2 (q, e) (List.mem_append_right _ (List.mem_append_left _ (List.mem_of_getElem? h)))
  · exact hA q (Nat.le_trans hS.1 h)
theorem ct_go {X Y : va_W} (hw : w = X ++ (w0 ++ Y)) (hw' : w' = X ++ (w1 ++ Y)) (hr : va_Run p l e R s m args below meth c H locs cells slots 0 0 (F0 m pc ls st0) rest (Qct E (va_A w0 H.size) w1 ov aa) (va_A w0 H.size))
    (hP : va_P E.1 vwCl w H) (hD : va_D A w) (hS : va_S A s.heap H locs) (hA : ∀ q : Nat, s.heap.size ≤ q → A q)
    (kk : ∀ (H1 : Heap) (locs1 : List Loc), va_P E.1 vwCl w' H1 → va_D A w' → va_S A s.heap H1 locs1 → W p l e R s m args below meth c H1 locs1 cells slots Q (F0 m (pc + 3) ls (ov.toList ++ rest))) : W p l e R s m args below meth c H locs cells slots Q (F0 m pc ls st0) := by
  have hF := ct_free hw hD hS hA
  intro T hT X0
  obtain ⟨v, st₀, t, T', L, h0, X', hL, e1, e2, ⟨hv, hp, hd, hz, hk⟩, st⟩ := hr T hT X0
  cases hv
  rw [h0] at hz hk
  rw [hw] at hP hD
  rw [← e1] at hp hz hk
  obtain ⟨hP', hD'⟩ := wj hP hD hk hF hp hd
  rw [← hw'] at hP' hD'
  obtain ⟨t2, a1, b1⟩ := kk T'.heap (locs ++ L) hP' hD' ⟨Nat.le_trans hS.1 hz, fun q h1 h2 => by rw [hk q (Nat.lt_of_lt_of_le h1 hS.1) (fun z => h2 (hF q z))]; exact hS.2.1 q h1 h2, fun q hq => by
      rcases List.mem_append.mp hq with h | h
      · exact hS.2.2 q h
      · exact hF _ (hL q h)⟩ T' rfl X'
  exact ⟨t2, st t2 a1, b1⟩
end CTG
/-- the words of a call of an own instance method -/
def LinkV (own : String) (index : Nat) (C : String) (y : MethodName) (bytes : ByteArray) (maxL : Nat) (ret : Option FieldType) (n : Nat) : Prop :=
  Cond.methodLink own index y ∈ tbl ∧ Cond.instanceMethod y ∈ tbl ∧ Cond.selects C y y ∈ tbl ∧ Cond.initialized y.cls ∈ tbl ∧ Cond.code y bytes maxL ret ∈ tbl ∧ (y.cls ≠ "java/lang/invoke/MethodHandle" ∧ y.cls ≠ "java/lang/invoke/VarHandle") ∧ (parseMethodDescriptor y.desc).map (fun d => d.parameters.length) = some n
/-- of an own static method -/
def LinkS (own : String) (index : Nat) (y : MethodName) (bytes : ByteArray) (maxL : Nat) (ret : Option FieldType) (n : Nat) : Prop :=
  Cond.methodLink own index y ∈ tbl ∧ Cond.static y ∈ tbl ∧ Cond.initialized y.cls ∈ tbl ∧ Cond.code y bytes maxL ret ∈ tbl ∧ (y.cls ≠ "java/lang/invoke/MethodHandle" ∧ y.cls ≠ "java/lang/invoke/VarHandle") ∧ (parseMethodDescriptor y.desc).map (fun d => d.parameters.length) = some n
/-- of a nest mate's instance method -/
def LinkVN (own : String) (index : Nat) (C : String) (y : MethodName) (host : String) (bytes : ByteArray) (maxL : Nat) (ret : Option FieldType) (n : Nat) : Prop :=
  Cond.methodLinkNest own index y host ∈ tbl ∧ Cond.instanceMethod y ∈ tbl ∧ Cond.selects C y y ∈ tbl ∧ Cond.initialized y.cls ∈ tbl ∧ Cond.code y bytes maxL ret ∈ tbl ∧ (y.cls ≠ "java/lang/invoke/MethodHandle" ∧ y.cls ≠ "java/lang/invoke/VarHandle") ∧ (parseMethodDescriptor y.desc).map (fun d => d.parameters.length) = some n
/-- of a nest mate's static method -/
def LinkSN (own : String) (index : Nat) (y : MethodName) (host : String) (bytes : ByteArray) (maxL : Nat) (ret : Option FieldType) (n : Nat) : Prop :=
  Cond.methodLinkNest own index y host ∈ tbl ∧ Cond.static y ∈ tbl ∧ Cond.initialized y.cls ∈ tbl ∧ Cond.code y bytes maxL ret ∈ tbl ∧ (y.cls ≠ "java/lang/invoke/MethodHandle" ∧ y.cls ≠ "java/lang/invoke/VarHandle") ∧ (parseMethodDescriptor y.desc).map (fun d => d.parameters.length) = some n
theorem cd_all {E : EV} {A : Nat → Prop} {s : State} (hE : Ev E A s) {y : MethodName} {bytes : ByteArray} {maxL : Nat} {ret : Option FieldType} (hc : Cond.code y bytes maxL ret ∈ tbl) : ∀ w ∈ [Cond.code y bytes maxL ret], ∀ (a' : Array Value) (U : State), s.WarmedH U.vm → w.before a' U = true := by
  intro w hw a' U hW
  rw [List.mem_singleton] at hw
  subst hw
  exact tb_warm hW _ (tb_ok _ hc) (hE.w (args := #[]) hc) a'
theorem ln_of {y : MethodName} {n : Nat} (h : (parseMethodDescriptor y.desc).map (fun d => d.parameters.length) = some n) : ∀ sig, parseMethodDescriptor y.desc = some sig → n = sig.parameters.length := by
  intro sig hs
  rw [hs] at h
  exact (Option.some.inj h).symm
section CTC
variable {p : Program} {l : Launch} {e : Env} {R : Room} {s : State} {m : MethodId} {args : Array Value} {below : List Frame} {meth : Method} {c : Code} {H : Heap} {locs : List Loc} {cells slots : Nat} {Q : State → Prop}
variable {pc : Nat} {ls : Array Slot} {rest As st0 : List Value} {E : EV} {A : Nat → Prop} {w w' w0 w1 X Y : va_W} {ov : Option Value}
variable {own C host : String} {index maxL nL n b ci q0 : Nat} {y : MethodName} {bytes cc : ByteArray} {ret : Option FieldType} {rm : Room} {fs : List Value} {T : u_T} {N : Nat}
theorem ct_pre {av : List Value} (hw : w = X ++ (w0 ++ Y)) (hE : Ev E A s) (hP : va_P E.1 vwCl w H) (hD : va_D A w) (hS : va_S A s.heap H locs) (hA : ∀ q : Nat, s.heap.size ≤ q → A q) : ∀ U : State, U.heap = H → s.WarmedH U.vm → Pct E av w0 H.size av.toArray U := by
  intro U hU hW
  have hF := ct_free hw hD hS hA
  rw [hw] at hP hD
  rw [vaP_mem] at hP
  rw [vaD_pw] at hD
  refine ⟨rfl, by rw [hU], ?_, ?_, hE.go hS hU hW hF⟩
  · rw [hU, vaP_mem]
    exact fun q hq => hP q (List.mem_append_right _ (List.mem_append_left _ hq))
  · rw [vaD_pw]
    exact ⟨(List.pairwise_append.mp (List.pairwise_append.mp hD.1).2.1).1, fun _ _ => trivial⟩
theorem cV (lk : LinkV own index C y bytes maxL ret n) (hx : p.tables.exec = Jvm.exec) (hb : c.code = cc) (hml : c.maxLocals = nL) (hown : s.vm.findClass own = some m.cls) (hE : Ev E A s) (hA : ∀ q : Nat, s.heap.size ≤ q → A q) (hC : Ct l E y bytes maxL ret rm (.ref b :: As) w0 w1 ov) (hw : w = X ++ (w0 ++ Y)) (hw' : w' = X ++ (w1 ++ Y))
    (hP : va_P E.1 vwCl w H) (hD : va_D A w) (hS : va_S A s.heap H locs) (he : w0[q0]? = some (b, .inr (ci, fs))) (hc : vwCl[ci]? = some (C, T, N)) (hR : rm.cells = 0 ∧ rm.slots = 0 ∧ rm.frames + 1 ≤ R.frames ∧ 8 + (maxL + 11) + rm.locals ≤ R.locals) (hl : ls.size = nL) (hst : st0 = As.reverse ++ .ref b :: rest) (hn : As.length = n) (hW : (rest.map fun v => v.category).sum ≤ 8) (hf : cells + 0 ≤ R.cells ∧ slots + 0 ≤ R.slots) (hdg : decode cc pc = .ok (.invokevirtual index, 3))
    (kk : ∀ (H1 : Heap) (locs1 : List Loc), va_P E.1 vwCl w' H1 → va_D A w' → va_S A s.heap H1 locs1 → W p l e R s m args below meth c H1 locs1 cells slots Q (F0 m (pc + 3) ls (ov.toList ++ rest))) : W p l e R s m args below meth c H locs cells slots Q (F0 m pc ls st0) := by
  obtain ⟨k1, k2, k3, k4, k5, k6, k7⟩ := lk
  have hpre := ct_pre (av := .ref b :: As) hw hE hP hD hS hA
  have hP2 : va_P E.1 vwCl w0 H := by
    have hP0 := hP
    rw [hw, vaP_mem] at hP0
    rw [vaP_mem]
    exact fun q hq => hP0 q (List.mem_append_right _ (List.mem_append_left _ hq))
  exact ct_go hw hw' (va_runV (As := As) (rest := rest) ⟨hx, hb, hml, hown, fun w hw => hE.w hw⟩ (hC H.size) (⟨⟨hR.1, hR.2.1, hR.2.2.1, hR.2.2.2, cd_all hE k5, List.mem_singleton.mpr rfl, hE.w k5, hE.w k4, k6, ln_of k7, hE.w k1⟩, hE.w k2, hE.w k3⟩) ⟨Pct.blind, va_recv hE.2.1 hP2 hc he, hpre⟩ rfl hn hl hst (lv_room hW) hdg hf) hP hD hS hA kk
theorem cS (lk : LinkS own index y bytes maxL ret n) (hx : p.tables.exec = Jvm.exec) (hb : c.code = cc) (hml : c.maxLocals = nL) (hown : s.vm.findClass own = some m.cls) (hE : Ev E A s) (hA : ∀ q : Nat, s.heap.size ≤ q → A q) (hC : Ct l E y bytes maxL ret rm As w0 w1 ov) (hw : w = X ++ (w0 ++ Y)) (hw' : w' = X ++ (w1 ++ Y))
    (hP : va_P E.1 vwCl w H) (hD : va_D A w) (hS : va_S A s.heap H locs) (hR : rm.cells = 0 ∧ rm.slots = 0 ∧ rm.frames + 1 ≤ R.frames ∧ 8 + (maxL + 11) + rm.locals ≤ R.locals) (hl : ls.size = nL) (hst : st0 = As.reverse ++ rest) (hn : As.length = n) (hW : (rest.map fun v => v.category).sum ≤ 8) (hf : cells + 0 ≤ R.cells ∧ slots + 0 ≤ R.slots) (hdg : decode cc pc = .ok (.invokestatic index, 3))
    (kk : ∀ (H1 : Heap) (locs1 : List Loc), va_P E.1 vwCl w' H1 → va_D A w' → va_S A s.heap H1 locs1 → W p l e R s m args below meth c H1 locs1 cells slots Q (F0 m (pc + 3) ls (ov.toList ++ rest))) : W p l e R s m args below meth c H locs cells slots Q (F0 m pc ls st0) := by
  obtain ⟨k1, k2, k4, k5, k6, k7⟩ := lk
  have hpre := ct_pre (av := As) hw hE hP hD hS hA
  exact ct_go hw hw' (va_runS (As := As) (rest := rest) ⟨hx, hb, hml, hown, fun w hw => hE.w hw⟩ (hC H.size) (⟨⟨hR.1, hR.2.1, hR.2.2.1, hR.2.2.2, cd_all hE k5, List.mem_singleton.mpr rfl, hE.w k5, hE.w k4, k6, ln_of k7, hE.w k1⟩, hE.w k2⟩) ⟨Pct.blind, hpre⟩ rfl hn hl hst (lv_room hW) hdg hf) hP hD hS hA kk
theorem cVN (lk : LinkVN own index C y host bytes maxL ret n) (hx : p.tables.exec = Jvm.exec) (hb : c.code = cc) (hml : c.maxLocals = nL) (hown : s.vm.findClass own = some m.cls) (hE : Ev E A s) (hA : ∀ q : Nat, s.heap.size ≤ q → A q) (hC : Ct l E y bytes maxL ret rm (.ref b :: As) w0 w1 ov) (hw : w = X ++ (w0 ++ Y)) (hw' : w' = X ++ (w1 ++ Y))
    (hP : va_P E.1 vwCl w H) (hD : va_D A w) (hS : va_S A s.heap H locs) (he : w0[q0]? = some (b, .inr (ci, fs))) (hc : vwCl[ci]? = some (C, T, N)) (hR : rm.cells = 0 ∧ rm.slots = 0 ∧ rm.frames + 1 ≤ R.frames ∧ 8 + (maxL + 11) + rm.locals ≤ R.locals) (hl : ls.size = nL) (hst : st0 = As.reverse ++ .ref b :: rest) (hn : As.length = n) (hW : (rest.map fun v => v.category).sum ≤ 8) (hf : cells + 0 ≤ R.cells ∧ slots + 0 ≤ R.slots) (hdg : decode cc pc = .ok (.invokevirtual index, 3))
    (kk : ∀ (H1 : Heap) (locs1 : List Loc), va_P E.1 vwCl w' H1 → va_D A w' → va_S A s.heap H1 locs1 → W p l e R s m args below meth c H1 locs1 cells slots Q (F0 m (pc + 3) ls (ov.toList ++ rest))) : W p l e R s m args below meth c H locs cells slots Q (F0 m pc ls st0) := by
  obtain ⟨k1, k2, k3, k4, k5, k6, k7⟩ := lk
  have hpre := ct_pre (av := .ref b :: As) hw hE hP hD hS hA
  have hP2 : va_P E.1 vwCl w0 H := by
    have hP0 := hP
    rw [hw, vaP_mem] at hP0
    rw [vaP_mem]
    exact fun q hq => hP0 q (List.mem_append_right _ (List.mem_append_left _ hq))
  exact ct_go hw hw' (va_runVN (As := As) (rest := rest) ⟨hx, hb, hml, hown, fun w hw => hE.w hw⟩ (hC H.size) (⟨⟨⟨hR.1, hR.2.1, hR.2.2.1, hR.2.2.2, cd_all hE k5, List.mem_singleton.mpr rfl⟩, hE.w k5, hE.w k4, k6, ln_of k7, hE.w k1⟩, hE.w k2, hE.w k3⟩) ⟨Pct.blind, va_recv hE.2.1 hP2 hc he, hpre⟩ rfl hn hl hst (lv_room hW) hdg hf) hP hD hS hA kk
theorem cSN (lk : LinkSN own index y host bytes maxL ret n) (hx : p.tables.exec = Jvm.exec) (hb : c.code = cc) (hml : c.maxLocals = nL) (hown : s.vm.findClass own = some m.cls) (hE : Ev E A s) (hA : ∀ q : Nat, s.heap.size ≤ q → A q) (hC : Ct l E y bytes maxL ret rm As w0 w1 ov) (hw : w = X ++ (w0 ++ Y)) (hw' : w' = X ++ (w1 ++ Y))
    (hP : va_P E.1 vwCl w H) (hD : va_D A w) (hS : va_S A s.heap H locs) (hR : rm.cells = 0 ∧ rm.slots = 0 ∧ rm.frames + 1 ≤ R.frames ∧ 8 + (maxL + 11) + rm.locals ≤ R.locals) (hl : ls.size = nL) (hst : st0 = As.reverse ++ rest) (hn : As.length = n) (hW : (rest.map fun v => v.category).sum ≤ 8) (hf : cells + 0 ≤ R.cells ∧ slots + 0 ≤ R.slots) (hdg : decode cc pc = .ok (.invokestatic index, 3))
    (kk : ∀ (H1 : Heap) (locs1 : List Loc), va_P E.1 vwCl w' H1 → va_D A w' → va_S A s.heap H1 locs1 → W p l e R s m args below meth c H1 locs1 cells slots Q (F0 m (pc + 3) ls (ov.toList ++ rest))) : W p l e R s m args below meth c H locs cells slots Q (F0 m pc ls st0) := by
  obtain ⟨k1, k2, k4, k5, k6, k7⟩ := lk
  have hpre := ct_pre (av := As) hw hE hP hD hS hA
  exact ct_go hw hw' (va_runSN (As := As) (rest := rest) ⟨hx, hb, hml, hown, fun w hw => hE.w hw⟩ (hC H.size) (⟨⟨⟨hR.1, hR.2.1, hR.2.2.1, hR.2.2.2, cd_all hE k5, List.mem_singleton.mpr rfl⟩, hE.w k5, hE.w k4, k6, ln_of k7, hE.w k1⟩, hE.w k2, trivial⟩) ⟨Pct.blind, hpre⟩ rfl hn hl hst (lv_room hW) hdg hf) hP hD hS hA kk
end CTC
section CTR
variable {p : Program} {l : Launch} {e : Env} {R : Room} {s : State} {m : MethodId} {args : Array Value} {below : List Frame} {meth : Method} {c : Code} {H : Heap} {locs : List Loc}
variable {pc : Nat} {ls : Array Slot} {E : EV} {A : Nat → Prop} {w1 : va_W} {cc : ByteArray}
theorem rt_i {v : Int32} (hx : p.tables.exec = Jvm.exec) (hb : c.code = cc) (hr : meth.sig.returnType = some .int) (hlocks : meth.locks = false) (hP : va_P E.1 vwCl w1 H) (hD : va_D A w1) (hS : va_S A s.heap H locs) (hdg : decode cc pc = .ok (.ireturn, 1)) : W p l e R s m args below meth c H locs 0 0 (MQ below (Qct E A w1 (some (.int v))) args s 0 0 A) (F0 m pc ls [.int v]) :=
  W.iret hx hb hr (fun t ht _ => ⟨rfl, by rw [ht]; exact hP, hD, hS.F ht⟩) hS.2.2 hdg hlocks
theorem rt_z {v : Int32} {ty : FieldType} (hn : narrow ty (.int v) = .int v) (hx : p.tables.exec = Jvm.exec) (hb : c.code = cc) (hr : meth.sig.returnType = some ty) (hlocks : meth.locks = false) (hP : va_P E.1 vwCl w1 H) (hD : va_D A w1) (hS : va_S A s.heap H locs) (hdg : decode cc pc = .ok (.ireturn, 1)) : W p l e R s m args below meth c H locs 0 0 (MQ below (Qct E A w1 (some (.int v))) args s 0 0 A) (F0 m pc ls [.int v]) :=
  W.zret hx hb hr hn (fun t ht _ => ⟨rfl, by rw [ht]; exact hP, hD, hS.F ht⟩) hS.2.2 hdg hlocks
theorem rt_l {v : Int64} (hx : p.tables.exec = Jvm.exec) (hb : c.code = cc) (hr : meth.sig.returnType = some .long) (hlocks : meth.locks = false) (hP : va_P E.1 vwCl w1 H) (hD : va_D A w1) (hS : va_S A s.heap H locs) (hdg : decode cc pc = .ok (.lreturn, 1)) : W p l e R s m args below meth c H locs 0 0 (MQ below (Qct E A w1 (some (.long v))) args s 0 0 A) (F0 m pc ls [.long v]) :=
  W.lret hx hb hr (fun t ht _ => ⟨rfl, by rw [ht]; exact hP, hD, hS.F ht⟩) hS.2.2 hdg hlocks
theorem rt_v (hx : p.tables.exec = Jvm.exec) (hb : c.code = cc) (hr : meth.sig.returnType = none) (hlocks : meth.locks = false) (hP : va_P E.1 vwCl w1 H) (hD : va_D A w1) (hS : va_S A s.heap H locs) (hdg : decode cc pc = .ok (.return_, 1)) : W p l e R s m args below meth c H locs 0 0 (MQ below (Qct E A w1 none) args s 0 0 A) (F0 m pc ls []) :=
  W.vret hx hb hr (fun t ht _ => ⟨rfl, by rw [ht]; exact hP, hD, hS.F ht⟩) hS.2.2 hdg hlocks
end CTR
/-- booleans as numbers; an index that is looked at -/
def bI (b : Bool) : Int32 := if b then 1 else 0
theorem bI_nar (b : Bool) : narrow .boolean (.int (bI b)) = .int (bI b) := by cases b <;> decide
def gd {α : Type} (i : Int32) (n : Nat) (x : Option α) : Option α := if i < 0 ∨ n ≤ i.toNatClampNeg then none else x
theorem gd_some {α : Type} {i : Int32} {n : Nat} {x : Option α} {y : α} (h : gd i n x = some y) : vp_in i n ∧ x = some y := by
  unfold gd at h
  by_cases c : i < 0 ∨ n ≤ i.toNatClampNeg
  · rw [if_pos c] at h; cases h
  · rw [if_neg c] at h; exact ⟨c, h⟩
theorem gd_in {α : Type} {i : Int32} {n : Nat} {x : Option α} (h : vp_in i n) : gd i n x = x := if_neg h
def FU : Nat := 1000000
