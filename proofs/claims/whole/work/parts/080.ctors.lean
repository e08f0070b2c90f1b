/-! CONSTRUCTORS: their contract (new cells, at addresses that come with the answer), the rows for new arrays of a known class -/
def Pcn (E : EV) (q ci : Nat) (fs : List Value) (sz : Nat) : Array Value → State → Prop := va_Pc [.ref q] (fun U => U.heap.size = sz ∧ va_P E.1 vwCl [(q, .inr (ci, fs))] U.heap ∧ va_D (fun _ => True) [(q, .inr (ci, fs))] ∧ Ev E (va_A [(q, .inr (ci, fs))] sz) U ∧ va_AO "NotedHouse$Sheet" U)
def Qcn (E : EV) (A : Nat → Prop) (Z : va_W → Prop) : Array Value → State → Outcome → State → Prop := fun _ st oc t => oc = .returned none ∧ (∃ w1 : va_W, Z w1 ∧ va_P E.1 vwCl w1 t.heap ∧ va_D A w1) ∧ va_F A st t
def Cn (l : Launch) (E : EV) (y : MethodName) (bytes : ByteArray) (maxL : Nat) (rm : Room) (q ci : Nat) (fs : List Value) (mc ms : Nat) (Z : va_W → Prop) : Prop :=
  ∀ sz : Nat, Met l y [Cond.code y bytes maxL none] rm (Pcn E q ci fs sz) (Qcn E (va_A [(q, .inr (ci, fs))] sz) Z) mc ms (va_A [(q, .inr (ci, fs))] sz)
theorem Pcn.blind {E : EV} {q ci : Nat} {fs : List Value} {sz : Nat} : FrameBlind (Pcn E q ci fs sz) := by
  intro a U g mk h
  obtain ⟨q0, q1, qP, qD, qE, qO⟩ := h
  exact ⟨q0, q1, qP, qD, qE.call g mk a, va_AO.moved (u := U) (U := U.calling g mk a) (Vm.Alike.refl U.vm) qO⟩
theorem Cn.of {l : Launch} {E : EV} {y : MethodName} {bytes : ByteArray} {maxL : Nat} {rm : Room} {q ci : Nat} {fs : List Value} {mc ms : Nat} {Z : va_W → Prop} (hy : plainName y.cls = true) (hlen : 1 ≤ maxL) (hyn : y.name = "<init>")
    (body : ∀ (p : Program) (e : Env) (s : State) (m : MethodId) (below : List Frame) (meth : Method) (c : Code) (A : Nat → Prop) (ls : Array Slot), Cx E y bytes maxL none p s m meth c A → meth.name = "<init>" → va_AO "NotedHouse$Sheet" s → va_P E.1 vwCl [(q, .inr (ci, fs))] s.heap → va_D A [(q, .inr (ci, fs))] → lv_has ls maxL [(0, .ref q)] →
      W p l e rm s m [Value.ref q].toArray below meth c s.heap [] 0 0 (MQ below (Qcn E A Z) [Value.ref q].toArray s mc ms A) (F0 m 0 ls [])) : Cn l E y bytes maxL rm q ci fs mc ms Z := by
  intro sz
  refine Met.ofW (cc := bytes) (maxL := maxL) (ret := none) hy rfl ?_
  intro p e s m args below meth c s₁ B hml hv
  obtain ⟨rfl, hsz, hP, hD0, hE, hO⟩ := hv
  subst hsz
  have hD := hD0.self (sz := s.heap.size)
  generalize hAe : va_A [(q, .inr (ci, fs))] s.heap.size = A at hD hE ⊢
  have hA : ∀ q : Nat, s.heap.size ≤ q → A q := fun q h => by rw [← hAe]; exact Or.inr h
  have hin : meth.name = "<init>" := (name_of_methodNamed B.named B.method).1.trans hyn
  rw [lg_entry_eq]
  exact body p e s m below meth c A _ ⟨B.exec, B.bytes, B.returns, hml, findClass_of_methodNamed B.named, B.notSynchronized, hE, hA⟩ hin hO hP hD (lv_entry [Value.ref q] hlen)
theorem rt_n {p : Program} {l : Launch} {e : Env} {R : Room} {s : State} {m : MethodId} {args : Array Value} {below : List Frame} {meth : Method} {c : Code} {H : Heap} {locs : List Loc} {pc mc ms : Nat} {ls : Array Slot} {E : EV} {A : Nat → Prop} {Z : va_W → Prop} {w1 : va_W} {cc : ByteArray} (hZ : Z w1) (hx : p.tables.exec = Jvm.exec) (hb : c.code = cc) (hr : meth.sig.returnType = none) (hlocks : meth.locks = false) (hP : va_P E.1 vwCl w1 H) (hD : va_D A w1) (hS : va_S A s.heap H locs) (hdg : decode cc pc = .ok (.return_, 1)) : W p l e R s m args below meth c H locs mc ms (MQ below (Qcn E A Z) args s mc ms A) (F0 m pc ls []) :=
  W.vret hx hb hr (fun t ht _ => ⟨rfl, ⟨w1, hZ, by rw [ht]; exact hP, hD⟩, hS.F ht⟩) hS.2.2 hdg hlocks
section CN
variable {p : Program} {l : Launch} {e : Env} {R : Room} {s : State} {m : MethodId} {args : Array Value} {below : List Frame} {meth : Method} {c : Code} {H : Heap} {locs : List Loc} {cells slots : Nat} {Q : State → Prop}
variable {pc : Nat} {ls : Array Slot} {rest : List Value} {E : EV} {A : Nat → Prop} {w X : va_W} {cc : ByteArray}
theorem cA_eq {cA : ClassId} {ty : FieldType} {k : Nat} (hty : ty = .int ∨ ty = .long ∨ ty = .byte) (hE : Ev E A s) (hk : (tysE E)[k]? = some (E.2.1 k, ty)) (hK : va_K E.1 vwCl (tysE E ++ [(cA, ty)]) s) : cA = E.2.1 k := by
  have h1 := (hK.2 4 (cA, ty) rfl).2
  have h2 := (hE.2.1.2 k (E.2.1 k, ty) hk).2
  rcases hty with rfl | rfl | rfl
  · exact Option.some.inj (h1.symm.trans h2)
  · exact Option.some.inj (h1.symm.trans h2)
  · exact Option.some.inj (h1.symm.trans h2)
theorem nw_i (harr : Cond.arrayClass .int ∈ tbl) (hx : p.tables.exec = Jvm.exec) (hb : c.code = cc) (hE : Ev E A s) (hA : ∀ q : Nat, s.heap.size ≤ q → A q) (hP : va_P E.1 vwCl w H) (hD : va_D A w) (hS : va_S A s.heap H locs) {n : Int32} {N : Nat} (hn : ¬ n < 0) (hN : n.toNatClampNeg = N) (hby : N * componentBytes .int ≤ 536870912) (hc : cells + 1 ≤ R.cells) (hs : slots + N ≤ R.slots) (hdg : decode cc pc = .ok (.newarray .int, 2))
    (kk : ∀ (q : Nat) (H1 : Heap), va_P E.1 vwCl (w ++ [(q, .inl (E.2.1 0, N, .inl (fun _ => 0)))]) H1 → va_D A (w ++ [(q, .inl (E.2.1 0, N, .inl (fun _ => 0)))]) → va_S A s.heap H1 locs → W p l e R s m args below meth c H1 locs (cells + 1) (slots + N) Q (F0 m (pc + 2) ls (.ref q :: rest))) : W p l e R s m args below meth c H locs cells slots Q (F0 m pc ls (.int n :: rest)) := by
  refine va_newa (D := E.1) (cl := vwCl) (tys := tysE E) (atype := .int) (ty := .int) (a0 := (N, .inl (fun _ => 0))) hx hb (hE.w harr) rfl hE.2.1 hP hD hS hA (fun _ => rfl) hn hN hby hc hs hdg (fun q cA H1 hK hP hD hS => ?_)
  have ec : cA = E.2.1 0 := cA_eq (Or.inl rfl) hE rfl hK
  subst ec
  exact kk q H1 hP hD hS
theorem nw_l (harr : Cond.arrayClass .long ∈ tbl) (hx : p.tables.exec = Jvm.exec) (hb : c.code = cc) (hE : Ev E A s) (hA : ∀ q : Nat, s.heap.size ≤ q → A q) (hP : va_P E.1 vwCl w H) (hD : va_D A w) (hS : va_S A s.heap H locs) {n : Int32} {N : Nat} (hn : ¬ n < 0) (hN : n.toNatClampNeg = N) (hby : N * componentBytes .long ≤ 536870912) (hc : cells + 1 ≤ R.cells) (hs : slots + N ≤ R.slots) (hdg : decode cc pc = .ok (.newarray .long, 2))
    (kk : ∀ (q : Nat) (H1 : Heap), va_P E.1 vwCl (w ++ [(q, .inl (E.2.1 1, N, .inr (.inl (fun _ => 0))))]) H1 → va_D A (w ++ [(q, .inl (E.2.1 1, N, .inr (.inl (fun _ => 0))))]) → va_S A s.heap H1 locs → W p l e R s m args below meth c H1 locs (cells + 1) (slots + N) Q (F0 m (pc + 2) ls (.ref q :: rest))) : W p l e R s m args below meth c H locs cells slots Q (F0 m pc ls (.int n :: rest)) := by
  refine va_newa (D := E.1) (cl := vwCl) (tys := tysE E) (atype := .long) (ty := .long) (a0 := (N, .inr (.inl (fun _ => 0)))) hx hb (hE.w harr) rfl hE.2.1 hP hD hS hA (fun _ => rfl) hn hN hby hc hs hdg (fun q cA H1 hK hP hD hS => ?_)
  have ec : cA = E.2.1 1 := cA_eq (Or.inr (Or.inl rfl)) hE rfl hK
  subst ec
  exact kk q H1 hP hD hS
theorem nw_b (harr : Cond.arrayClass .byte ∈ tbl) (hx : p.tables.exec = Jvm.exec) (hb : c.code = cc) (hE : Ev E A s) (hA : ∀ q : Nat, s.heap.size ≤ q → A q) (hP : va_P E.1 vwCl w H) (hD : va_D A w) (hS : va_S A s.heap H locs) {n : Int32} {N : Nat} (hn : ¬ n < 0) (hN : n.toNatClampNeg = N) (hby : N * componentBytes .byte ≤ 536870912) (hc : cells + 1 ≤ R.cells) (hs : slots + N ≤ R.slots) (hdg : decode cc pc = .ok (.newarray .byte, 2))
    (kk : ∀ (q : Nat) (H1 : Heap), va_P E.1 vwCl (w ++ [(q, .inl (E.2.1 2, N, .inl (fun _ => 0)))]) H1 → va_D A (w ++ [(q, .inl (E.2.1 2, N, .inl (fun _ => 0)))]) → va_S A s.heap H1 locs → W p l e R s m args below meth c H1 locs (cells + 1) (slots + N) Q (F0 m (pc + 2) ls (.ref q :: rest))) : W p l e R s m args below meth c H locs cells slots Q (F0 m pc ls (.int n :: rest)) := by
  refine va_newa (D := E.1) (cl := vwCl) (tys := tysE E) (atype := .byte) (ty := .byte) (a0 := (N, .inl (fun _ => 0))) hx hb (hE.w harr) rfl hE.2.1 hP hD hS hA (fun _ => rfl) hn hN hby hc hs hdg (fun q cA H1 hK hP hD hS => ?_)
  have ec : cA = E.2.1 2 := cA_eq (Or.inr (Or.inr rfl)) hE rfl hK
  subst ec
  exact kk q H1 hP hD hS
theorem nw_q {own : String} {index : Nat} (hown : s.vm.findClass own = some m.cls) (hcl : Cond.classLink own index "NotedHouse$Sheet" ∈ tbl) (hO : va_AO "NotedHouse$Sheet" s) (hx : p.tables.exec = Jvm.exec) (hb : c.code = cc) (hE : Ev E A s) (hA : ∀ q : Nat, s.heap.size ≤ q → A q) (hP : va_P E.1 vwCl w H) (hD : va_D A w) (hS : va_S A s.heap H locs) {n : Int32} {N : Nat} (hn : ¬ n < 0) (hN : n.toNatClampNeg = N) (hby : N * 4 ≤ 536870912) (hc : cells + 1 ≤ R.cells) (hs : slots + N ≤ R.slots) (hdg : decode cc pc = .ok (.anewarray index, 3))
    (kk : ∀ (q : Nat) (H1 : Heap), va_P E.1 vwCl (w ++ [(q, .inl (E.2.1 3, N, .inr (.inr (.inr (.inr (fun _ => none))))))]) H1 → va_D A (w ++ [(q, .inl (E.2.1 3, N, .inr (.inr (.inr (.inr (fun _ => none))))))]) → va_S A s.heap H1 locs → W p l e R s m args below meth c H1 locs (cells + 1) (slots + N) Q (F0 m (pc + 3) ls (.ref q :: rest))) : W p l e R s m args below meth c H locs cells slots Q (F0 m pc ls (.int n :: rest)) := by
  refine va_newq (D := E.1) (cl := vwCl) (tys := tysE E) hx hb hown (hE.w hcl) hO hE.2.1 hP hD hS hA hn hN hby hc hs hdg (fun q cA H1 hK hP hD hS => ?_)
  have ec : cA = E.2.1 3 := by
    obtain ⟨_, _, _, _, _, h1⟩ := (hK.2 4 (cA, .object "NotedHouse$Sheet") rfl).2
    obtain ⟨_, _, _, _, _, h2⟩ := (hE.2.1.2 3 (E.2.1 3, .object "NotedHouse$Sheet") rfl).2
    exact Option.some.inj (h1.symm.trans h2)
  subst ec
  exact kk q H1 hP hD hS
theorem cn_go {q ci mc ms : Nat} {fs st0 : List Value} {Z : va_W → Prop} {aa : Array Value} (hr : va_Run p l e R s m args below meth c H locs cells slots mc ms (F0 m pc ls st0) rest (Qcn E (va_A [(q, .inr (ci, fs))] H.size) Z aa) (va_A [(q, .inr (ci, fs))] H.size))
    (hP : va_P E.1 vwCl (X ++ [(q, .inr (ci, fs))]) H) (hD : va_D A (X ++ [(q, .inr (ci, fs))])) (hS : va_S A s.heap H locs) (hA : ∀ q : Nat, s.heap.size ≤ q → A q)
    (kk : ∀ (w1 : va_W) (H1 : Heap) (locs1 : List Loc), Z w1 → va_P E.1 vwCl (X ++ w1) H1 → va_D A (X ++ w1) → va_S A s.heap H1 locs1 → W p l e R s m args below meth c H1 locs1 (cells + mc) (slots + ms) Q (F0 m (pc + 3) ls rest)) : W p l e R s m args below meth c H locs cells slots Q (F0 m pc ls st0) := by
  have hw : X ++ [(q, .inr (ci, fs))] = X ++ ([(q, .inr (ci, fs))] ++ ([] : va_W)) := rfl
  have hF := ct_free hw hD hS hA
  intro T hT X0
  obtain ⟨v, st₀, t, T', L, h0, X', hL, e1, e2, ⟨hv, ⟨w1, hZ, hp, hd⟩, hz, hk⟩, st⟩ := hr T hT X0
  cases hv
  rw [h0] at hz hk
  rw [hw] at hP hD
  rw [← e1] at hp hz hk
  obtain ⟨hP', hD'⟩ := wj hP hD hk hF hp hd
  rw [List.append_nil] at hP' hD'
  obtain ⟨t2, a1, b1⟩ := kk w1 T'.heap (locs ++ L) hZ hP' hD' ⟨Nat.le_trans hS.1 hz, fun q h1 h2 => by rw [hk q (Nat.lt_of_lt_of_le h1 hS.1) (fun z => h2 (hF q z))]; exact hS.2.1 q h1 h2, fun q hq => by
      rcases List.mem_append.mp hq with h | h
      · exact hS.2.2 q h
      · exact hF _ (hL q h)⟩ T' rfl X'
  exact ⟨t2, st t2 a1, b1⟩
theorem cn_pre {q ci : Nat} {fs : List Value} (hE : Ev E A s) (hO : va_AO "NotedHouse$Sheet" s) (hP : va_P E.1 vwCl (X ++ [(q, .inr (ci, fs))]) H) (hD : va_D A (X ++ [(q, .inr (ci, fs))])) (hS : va_S A s.heap H locs) (hA : ∀ q : Nat, s.heap.size ≤ q → A q) : ∀ U : State, U.heap = H → s.WarmedH U.vm → Pcn E q ci fs H.size [Value.ref q].toArray U := by
  intro U hU hW
  obtain ⟨h1, h2, h3, h4, h5⟩ := ct_pre (av := [.ref q]) (w0 := [(q, .inr (ci, fs))]) (Y := []) (show X ++ [(q, .inr (ci, fs))] = X ++ ([(q, .inr (ci, fs))] ++ ([] : va_W)) from rfl) hE hP hD hS hA U hU hW
  exact ⟨h1, h2, h3, h4, h5, va_AO.moved hW.alike hO⟩
theorem cI {own : String} {index maxL nL q ci mc ms : Nat} {y : MethodName} {bytes : ByteArray} {rm : Room} {fs st0 : List Value} {Z : va_W → Prop} (k1 : Cond.methodLink own index y ∈ tbl) (k2 : Cond.instanceMethod y ∈ tbl) (k4 : Cond.initialized y.cls ∈ tbl) (k5 : Cond.code y bytes maxL none ∈ tbl) (k6 : y.cls ≠ "java/lang/invoke/MethodHandle" ∧ y.cls ≠ "java/lang/invoke/VarHandle") (k7 : (parseMethodDescriptor y.desc).map (fun d => d.parameters.length) = some 0) (k8 : y.name = "<init>")
    (hx : p.tables.exec = Jvm.exec) (hb : c.code = cc) (hml : c.maxLocals = nL) (hown : s.vm.findClass own = some m.cls) (hE : Ev E A s) (hA : ∀ q : Nat, s.heap.size ≤ q → A q) (hO : va_AO "NotedHouse$Sheet" s) (hC : Cn l E y bytes maxL rm q ci fs mc ms Z)
    (hP : va_P E.1 vwCl (X ++ [(q, .inr (ci, fs))]) H) (hD : va_D A (X ++ [(q, .inr (ci, fs))])) (hS : va_S A s.heap H locs) (hR : rm.cells = mc ∧ rm.slots = ms ∧ rm.frames + 1 ≤ R.frames ∧ 8 + (maxL + 11) + rm.locals ≤ R.locals) (hl : ls.size = nL) (hst : st0 = .ref q :: rest) (hW : (rest.map fun v => v.category).sum ≤ 8) (hf : cells + mc ≤ R.cells ∧ slots + ms ≤ R.slots) (hdg : decode cc pc = .ok (.invokespecial index, 3))
    (kk : ∀ (w1 : va_W) (H1 : Heap) (locs1 : List Loc), Z w1 → va_P E.1 vwCl (X ++ w1) H1 → va_D A (X ++ w1) → va_S A s.heap H1 locs1 → W p l e R s m args below meth c H1 locs1 (cells + mc) (slots + ms) Q (F0 m (pc + 3) ls rest)) : W p l e R s m args below meth c H locs cells slots Q (F0 m pc ls st0) :=
  cn_go (va_runI (As := []) (rest := rest) ⟨hx, hb, hml, hown, fun w hw => hE.w hw⟩ (hC H.size) ⟨⟨hR.1, hR.2.1, hR.2.2.1, hR.2.2.2, cd_all hE k5, List.mem_singleton.mpr rfl, hE.w k5, hE.w k4, k6, ln_of k7, hE.w k1⟩, k8, hE.w k2⟩ ⟨Pcn.blind, cn_pre hE hO hP hD hS hA⟩ rfl rfl hl hst (lv_room hW) hdg hf) hP hD hS hA kk
theorem cIN {own host : String} {index maxL nL q ci mc ms : Nat} {y : MethodName} {bytes : ByteArray} {rm : Room} {fs st0 : List Value} {Z : va_W → Prop} (k1 : Cond.methodLinkNest own index y host ∈ tbl) (k2 : Cond.instanceMethod y ∈ tbl) (k4 : Cond.initialized y.cls ∈ tbl) (k5 : Cond.code y bytes maxL none ∈ tbl) (k6 : y.cls ≠ "java/lang/invoke/MethodHandle" ∧ y.cls ≠ "java/lang/invoke/VarHandle") (k7 : (parseMethodDescriptor y.desc).map (fun d => d.parameters.length) = some 0) (k8 : y.name = "<init>")
    (hx : p.tables.exec = Jvm.exec) (hb : c.code = cc) (hml : c.maxLocals = nL) (hown : s.vm.findClass own = some m.cls) (hE : Ev E A s) (hA : ∀ q : Nat, s.heap.size ≤ q → A q) (hO : va_AO "NotedHouse$Sheet" s) (hC : Cn l E y bytes maxL rm q ci fs mc ms Z)
    (hP : va_P E.1 vwCl (X ++ [(q, .inr (ci, fs))]) H) (hD : va_D A (X ++ [(q, .inr (ci, fs))])) (hS : va_S A s.heap H locs) (hR : rm.cells = mc ∧ rm.slots = ms ∧ rm.frames + 1 ≤ R.frames ∧ 8 + (maxL + 11) + rm.locals ≤ R.locals) (hl : ls.size = nL) (hst : st0 = .ref q :: rest) (hW : (rest.map fun v => v.category).sum ≤ 8) (hf : cells + mc ≤ R.cells ∧ slots + ms ≤ R.slots) (hdg : decode cc pc = .ok (.invokespecial index, 3))
    (kk : ∀ (w1 : va_W) (H1 : Heap) (locs1 : List Loc), Z w1 → va_P E.1 vwCl (X ++ w1) H1 → va_D A (X ++ w1) → va_S A s.heap H1 locs1 → W p l e R s m args below meth c H1 locs1 (cells + mc) (slots + ms) Q (F0 m (pc + 3) ls rest)) : W p l e R s m args below meth c H locs cells slots Q (F0 m pc ls st0) :=
  cn_go (va_runIN (As := []) (rest := rest) ⟨hx, hb, hml, hown, fun w hw => hE.w hw⟩ (hC H.size) ⟨⟨⟨hR.1, hR.2.1, hR.2.2.1, hR.2.2.2, cd_all hE k5, List.mem_singleton.mpr rfl⟩, hE.w k5, hE.w k4, k6, ln_of k7, hE.w k1⟩, k8, hE.w k2⟩ ⟨Pcn.blind, cn_pre hE hO hP hD hS hA⟩ rfl rfl hl hst (lv_room hW) hdg hf) hP hD hS hA kk
theorem vaP_cell {D : va_G} {cl : List vw_C} {ws : va_W} {k a n : Nat} {cA : ClassId} {f g : Nat → Option Nat} (hP : va_P D cl ws H) (hk : ws[k]? = some (a, .inl (cA, n, .inr (.inr (.inr (.inr f)))))) (hfg : ∀ j, j < n → f j = g j) : va_P D cl (ws.set k (a, .inl (cA, n, .inr (.inr (.inr (.inr g)))))) H := by
  intro j x hx
  rw [List.getElem?_set] at hx
  split at hx
  · split at hx
    · cases hx
      have h := hP k _ hk
      show H[a]? = some (vp_cell cA (n, _))
      have h' : H[a]? = some (vp_cell cA (n, .inr (.inr (.inr (.inr f))))) := h
      rw [h', vp_cell_q, vp_cell_q]
      refine congrArg some ?_
      unfold arrV
      congr 1
      refine congrArg _ (funext fun i => ?_)
      show va_rf (f i.val) = va_rf (g i.val)
      rw [hfg i.val i.isLt]
    · cases hx
  · exact hP j x hx
end CN
def zX0 : HS := ((0 : Int32), (0 : Int32), (0 : Int32), (fun _ => 0 : FI), (fun _ => 0 : FI), (fun _ => 0 : FI), (fun _ => 0 : FI), (fun _ => 0 : FI), (fun _ => 0 : FI), (fun _ => 0 : FI))
def lp_X0_init_77  : Nat → (Int32) → (HS) → Option (HS)
  | 0, _, _ => none
  | k_1 + 1, v1_1, h_1 => if (16 : Int32) ≤ v1_1 then some (h_1) else gd v1_1 16 (jn1 (s0_cues h_1 (upd (g0_cues h_1) v1_1.toNatClampNeg (v1_1 - (v1_1 / (5 : Int32)) * (5 : Int32)))) (fun h_4 => gd v1_1 16 (jn1 (s0_tenses h_4 (upd (g0_tenses h_4) v1_1.toNatClampNeg (5 : Int32))) (fun h_6 => lp_X0_init_77  k_1 (v1_1 + (1 : Int32)) h_6))))
def f_X0_init (h : HS) : Option (HS) := lp_X0_init_77  FU (0 : Int32) h
set_option maxHeartbeats 4000000 in
set_option maxRecDepth 100000 in
theorem c_X0_init (l : Launch) (E : EV) (q : Nat) (h' : HS) (hf : f_X0_init zX0 = some h') : Cn l E yX0_init cX0_init 2 ({ frames := 1, cells := 7, slots := 72, locals := 12 }) q 0 [.int 0, .int 0, .int 0, .null, .null, .null, .null, .null, .null, .null] 7 72 (fun w1 => ∃ a : Nat → Nat, a 0 = q ∧ w1 = wX0 E a h') := by
  refine Cn.of (by decide) (by decide) rfl ?_
  intro p e s m below meth c A ls hC hin hO hP hD hl
  obtain ⟨hx, hb, hr, hml, hown, hlocks, hE, hA⟩ := hC
  have hts : ∀ w ∈ tbl, w.before [Value.ref q].toArray s = true := fun w hw => hE.w hw
  have hS : va_S A s.heap s.heap [] := va_S.rf
  refine lv_aload_n hx hb dX0_init_0 rfl (lv_at hl 0 rfl) ?_
  refine W.objInit hx hb hown (hE.w tw_25) (hE.w tw_18) (hE.w tw_19) rfl (by rw [hml]; exact hl.1) rfl dX0_init_1 (Nat.le_of_ble_eq_true rfl) (Nat.le_of_ble_eq_true rfl) ?_
  refine W.eq (g2 := F0 m 4 ls []) rfl ?_
  refine lv_aload_n hx hb dX0_init_4 rfl (lv_at hl 0 rfl) ?_
  refine lv_iconst (v := (0 : Int32)) hx hb dX0_init_5 (by decide) ?_
  refine va_put (D := E.1) (ci := 0) (v := .int (0 : Int32)) (ty := .int) (C := RX0) (T := TX0) (N := 10) hx hb hts inX0 tyX0 tyX0_ok nmX0 hown hE.2.1 hP hD hS 0 rfl rfl 0 (by decide) (hE.w tw_26) (fun _ h9 => h9) rfl (by decide +kernel) rfl rfl (Nat.le_of_ble_eq_true rfl) dX0_init_6 (fun H locs hP hD hS => ?_)
  have hP : va_P E.1 vwCl [(q, .inr (0, [.int (0 : Int32), .int 0, .int 0, .null, .null, .null, .null, .null, .null, .null]))] H := hP
  have hD : va_D A [(q, .inr (0, [.int (0 : Int32), .int 0, .int 0, .null, .null, .null, .null, .null, .null, .null]))] := hD
  refine lv_aload_n hx hb dX0_init_9 rfl (lv_at hl 0 rfl) ?_
  refine lv_iconst (v := (0 : Int32)) hx hb dX0_init_10 (by decide) ?_
  refine va_put (D := E.1) (ci := 0) (v := .int (0 : Int32)) (ty := .int) (C := RX0) (T := TX0) (N := 10) hx hb hts inX0 tyX0 tyX0_ok nmX0 hown hE.2.1 hP hD hS 0 rfl rfl 1 (by decide) (hE.w tw_28) (fun _ h9 => h9) rfl (by decide +kernel) rfl rfl (Nat.le_of_ble_eq_true rfl) dX0_init_11 (fun H locs hP hD hS => ?_)
  have hP : va_P E.1 vwCl [(q, .inr (0, [.int (0 : Int32), .int (0 : Int32), .int 0, .null, .null, .null, .null, .null, .null, .null]))] H := hP
  have hD : va_D A [(q, .inr (0, [.int (0 : Int32), .int (0 : Int32), .int 0, .null, .null, .null, .null, .null, .null, .null]))] := hD
  refine lv_aload_n hx hb dX0_init_14 rfl (lv_at hl 0 rfl) ?_
  refine lv_iconst (v := (0 : Int32)) hx hb dX0_init_15 (by decide) ?_
  refine va_put (D := E.1) (ci := 0) (v := .int (0 : Int32)) (ty := .int) (C := RX0) (T := TX0) (N := 10) hx hb hts inX0 tyX0 tyX0_ok nmX0 hown hE.2.1 hP hD hS 0 rfl rfl 2 (by decide) (hE.w tw_30) (fun _ h9 => h9) rfl (by decide +kernel) rfl rfl (Nat.le_of_ble_eq_true rfl) dX0_init_16 (fun H locs hP hD hS => ?_)
  have hP : va_P E.1 vwCl [(q, .inr (0, [.int (0 : Int32), .int (0 : Int32), .int (0 : Int32), .null, .null, .null, .null, .null, .null, .null]))] H := hP
  have hD : va_D A [(q, .inr (0, [.int (0 : Int32), .int (0 : Int32), .int (0 : Int32), .null, .null, .null, .null, .null, .null, .null]))] := hD
  refine lv_aload_n hx hb dX0_init_19 rfl (lv_at hl 0 rfl) ?_
  refine lv_bipush (v := (16 : Int32)) hx hb dX0_init_20 (by decide) ?_
  refine nw_i tw_70 hx hb hE hA hP hD hS (n := (16 : Int32)) (N := 16) (by decide) (by decide) (Nat.le_of_ble_eq_true rfl) (Nat.le_of_ble_eq_true rfl) (Nat.le_of_ble_eq_true rfl) dX0_init_22 (fun q1 H hP hD hS => ?_)
  refine W.widen (k := 1) (n := 16) (Nat.le_of_ble_eq_true rfl) (Nat.le_of_ble_eq_true rfl) ?_
  have hP : va_P E.1 vwCl [(q, .inr (0, [.int (0 : Int32), .int (0 : Int32), .int (0 : Int32), .null, .null, .null, .null, .null, .null, .null])), (q1, .inl (E.2.1 0, 16, .inl (fun _ => 0)))] H := hP
  have hD : va_D A [(q, .inr (0, [.int (0 : Int32), .int (0 : Int32), .int (0 : Int32), .null, .null, .null, .null, .null, .null, .null])), (q1, .inl (E.2.1 0, 16, .inl (fun _ => 0)))] := hD
  refine va_putF (D := E.1) (ci := 0) (v := .ref q1) (ty := .array .int) (C := RX0) (T := TX0) (N := 10) hx hb hts inX0 tyX0 tyX0_ok nmX0 hown hE.2.1 hP hD hS 0 rfl rfl 3 (by decide) (hE.w tw_33) (fun _ h9 => h9) rfl hin rfl (by decide +kernel) rfl rfl (Nat.le_of_ble_eq_true rfl) dX0_init_24 (fun H locs hP hD hS => ?_)
  have hP : va_P E.1 vwCl [(q, .inr (0, [.int (0 : Int32), .int (0 : Int32), .int (0 : Int32), .ref q1, .null, .null, .null, .null, .null, .null])), (q1, .inl (E.2.1 0, 16, .inl (fun _ => 0)))] H := hP
  have hD : va_D A [(q, .inr (0, [.int (0 : Int32), .int (0 : Int32), .int (0 : Int32), .ref q1, .null, .null, .null, .null, .null, .null])), (q1, .inl (E.2.1 0, 16, .inl (fun _ => 0)))] := hD
  refine lv_aload_n hx hb dX0_init_27 rfl (lv_at hl 0 rfl) ?_
  refine lv_bipush (v := (16 : Int32)) hx hb dX0_init_28 (by decide) ?_
  refine nw_i tw_70 hx hb hE hA hP hD hS (n := (16 : Int32)) (N := 16) (by decide) (by decide) (Nat.le_of_ble_eq_true rfl) (Nat.le_of_ble_eq_true rfl) (Nat.le_of_ble_eq_true rfl) dX0_init_30 (fun q2 H hP hD hS => ?_)
  refine W.widen (k := 2) (n := 32) (Nat.le_of_ble_eq_true rfl) (Nat.le_of_ble_eq_true rfl) ?_
  have hP : va_P E.1 vwCl [(q, .inr (0, [.int (0 : Int32), .int (0 : Int32), .int (0 : Int32), .ref q1, .null, .null, .null, .null, .null, .null])), (q1, .inl (E.2.1 0, 16, .inl (fun _ => 0))), (q2, .inl (E.2.1 0, 16, .inl (fun _ => 0)))] H := hP
  have hD : va_D A [(q, .inr (0, [.int (0 : Int32), .int (0 : Int32), .int (0 : Int32), .ref q1, .null, .null, .null, .null, .null, .null])), (q1, .inl (E.2.1 0, 16, .inl (fun _ => 0))), (q2, .inl (E.2.1 0, 16, .inl (fun _ => 0)))] := hD
  refine va_putF (D := E.1) (ci := 0) (v := .ref q2) (ty := .array .int) (C := RX0) (T := TX0) (N := 10) hx hb hts inX0 tyX0 tyX0_ok nmX0 hown hE.2.1 hP hD hS 0 rfl rfl 4 (by decide) (hE.w tw_36) (fun _ h9 => h9) rfl hin rfl (by decide +kernel) rfl rfl (Nat.le_of_ble_eq_true rfl) dX0_init_32 (fun H locs hP hD hS => ?_)
  have hP : va_P E.1 vwCl [(q, .inr (0, [.int (0 : Int32), .int (0 : Int32), .int (0 : Int32), .ref q1, .ref q2, .null, .null, .null, .null, .null])), (q1, .inl (E.2.1 0, 16, .inl (fun _ => 0))), (q2, .inl (E.2.1 0, 16, .inl (fun _ => 0)))] H := hP
  have hD : va_D A [(q, .inr (0, [.int (0 : Int32), .int (0 : Int32), .int (0 : Int32), .ref q1, .ref q2, .null, .null, .null, .null, .null])), (q1, .inl (E.2.1 0, 16, .inl (fun _ => 0))), (q2, .inl (E.2.1 0, 16, .inl (fun _ => 0)))] := hD
  refine lv_aload_n hx hb dX0_init_35 rfl (lv_at hl 0 rfl) ?_
  refine lv_bipush (v := (8 : Int32)) hx hb dX0_init_36 (by decide) ?_
  refine nw_i tw_70 hx hb hE hA hP hD hS (n := (8 : Int32)) (N := 8) (by decide) (by decide) (Nat.le_of_ble_eq_true rfl) (Nat.le_of_ble_eq_true rfl) (Nat.le_of_ble_eq_true rfl) dX0_init_38 (fun q3 H hP hD hS => ?_)
  refine W.widen (k := 3) (n := 40) (Nat.le_of_ble_eq_true rfl) (Nat.le_of_ble_eq_true rfl) ?_
  have hP : va_P E.1 vwCl [(q, .inr (0, [.int (0 : Int32), .int (0 : Int32), .int (0 : Int32), .ref q1, .ref q2, .null, .null, .null, .null, .null])), (q1, .inl (E.2.1 0, 16, .inl (fun _ => 0))), (q2, .inl (E.2.1 0, 16, .inl (fun _ => 0))), (q3, .inl (E.2.1 0, 8, .inl (fun _ => 0)))] H := hP
  have hD : va_D A [(q, .inr (0, [.int (0 : Int32), .int (0 : Int32), .int (0 : Int32), .ref q1, .ref q2, .null, .null, .null, .null, .null])), (q1, .inl (E.2.1 0, 16, .inl (fun _ => 0))), (q2, .inl (E.2.1 0, 16, .inl (fun _ => 0))), (q3, .inl (E.2.1 0, 8, .inl (fun _ => 0)))] := hD
  refine va_putF (D := E.1) (ci := 0) (v := .ref q3) (ty := .array .int) (C := RX0) (T := TX0) (N := 10) hx hb hts inX0 tyX0 tyX0_ok nmX0 hown hE.2.1 hP hD hS 0 rfl rfl 5 (by decide) (hE.w tw_39) (fun _ h9 => h9) rfl hin rfl (by decide +kernel) rfl rfl (Nat.le_of_ble_eq_true rfl) dX0_init_40 (fun H locs hP hD hS => ?_)
  have hP : va_P E.1 vwCl [(q, .inr (0, [.int (0 : Int32), .int (0 : Int32), .int (0 : Int32), .ref q1, .ref q2, .ref q3, .null, .null, .null, .null])), (q1, .inl (E.2.1 0, 16, .inl (fun _ => 0))), (q2, .inl (E.2.1 0, 16, .inl (fun _ => 0))), (q3, .inl (E.2.1 0, 8, .inl (fun _ => 0)))] H := hP
  have hD : va_D A [(q, .inr (0, [.int (0 : Int32), .int (0 : Int32), .int (0 : Int32), .ref q1, .ref q2, .ref q3, .null, .null, .null, .null])), (q1, .inl (E.2.1 0, 16, .inl (fun _ => 0))), (q2, .inl (E.2.1 0, 16, .inl (fun _ => 0))), (q3, .inl (E.2.1 0, 8, .inl (fun _ => 0)))] := hD
  refine lv_aload_n hx hb dX0_init_43 rfl (lv_at hl 0 rfl) ?_
  refine lv_bipush (v := (8 : Int32)) hx hb dX0_init_44 (by decide) ?_
  refine nw_i tw_70 hx hb hE hA hP hD hS (n := (8 : Int32)) (N := 8) (by decide) (by decide) (Nat.le_of_ble_eq_true rfl) (Nat.le_of_ble_eq_true rfl) (Nat.le_of_ble_eq_true rfl) dX0_init_46 (fun q4 H hP hD hS => ?_)
  refine W.widen (k := 4) (n := 48) (Nat.le_of_ble_eq_true rfl) (Nat.le_of_ble_eq_true rfl) ?_
  have hP : va_P E.1 vwCl [(q, .inr (0, [.int (0 : Int32), .int (0 : Int32), .int (0 : Int32), .ref q1, .ref q2, .ref q3, .null, .null, .null, .null])), (q1, .inl (E.2.1 0, 16, .inl (fun _ => 0))), (q2, .inl (E.2.1 0, 16, .inl (fun _ => 0))), (q3, .inl (E.2.1 0, 8, .inl (fun _ => 0))), (q4, .inl (E.2.1 0, 8, .inl (fun _ => 0)))] H := hP
  have hD : va_D A [(q, .inr (0, [.int (0 : Int32), .int (0 : Int32), .int (0 : Int32), .ref q1, .ref q2, .ref q3, .null, .null, .null, .null])), (q1, .inl (E.2.1 0, 16, .inl (fun _ => 0))), (q2, .inl (E.2.1 0, 16, .inl (fun _ => 0))), (q3, .inl (E.2.1 0, 8, .inl (fun _ => 0))), (q4, .inl (E.2.1 0, 8, .inl (fun _ => 0)))] := hD
  refine va_putF (D := E.1) (ci := 0) (v := .ref q4) (ty := .array .int) (C := RX0) (T := TX0) (N := 10) hx hb hts inX0 tyX0 tyX0_ok nmX0 hown hE.2.1 hP hD hS 0 rfl rfl 6 (by decide) (hE.w tw_41) (fun _ h9 => h9) rfl hin rfl (by decide +kernel) rfl rfl (Nat.le_of_ble_eq_true rfl) dX0_init_48 (fun H locs hP hD hS => ?_)
  have hP : va_P E.1 vwCl [(q, .inr (0, [.int (0 : Int32), .int (0 : Int32), .int (0 : Int32), .ref q1, .ref q2, .ref q3, .ref q4, .null, .null, .null])), (q1, .inl (E.2.1 0, 16, .inl (fun _ => 0))), (q2, .inl (E.2.1 0, 16, .inl (fun _ => 0))), (q3, .inl (E.2.1 0, 8, .inl (fun _ => 0))), (q4, .inl (E.2.1 0, 8, .inl (fun _ => 0)))] H := hP
  have hD : va_D A [(q, .inr (0, [.int (0 : Int32), .int (0 : Int32), .int (0 : Int32), .ref q1, .ref q2, .ref q3, .ref q4, .null, .null, .null])), (q1, .inl (E.2.1 0, 16, .inl (fun _ => 0))), (q2, .inl (E.2.1 0, 16, .inl (fun _ => 0))), (q3, .inl (E.2.1 0, 8, .inl (fun _ => 0))), (q4, .inl (E.2.1 0, 8, .inl (fun _ => 0)))] := hD
  refine lv_aload_n hx hb dX0_init_51 rfl (lv_at hl 0 rfl) ?_
  refine lv_bipush (v := (8 : Int32)) hx hb dX0_init_52 (by decide) ?_
  refine nw_i tw_70 hx hb hE hA hP hD hS (n := (8 : Int32)) (N := 8) (by decide) (by decide) (Nat.le_of_ble_eq_true rfl) (Nat.le_of_ble_eq_true rfl) (Nat.le_of_ble_eq_true rfl) dX0_init_54 (fun q5 H hP hD hS => ?_)
  refine W.widen (k := 5) (n := 56) (Nat.le_of_ble_eq_true rfl) (Nat.le_of_ble_eq_true rfl) ?_
  have hP : va_P E.1 vwCl [(q, .inr (0, [.int (0 : Int32), .int (0 : Int32), .int (0 : Int32), .ref q1, .ref q2, .ref q3, .ref q4, .null, .null, .null])), (q1, .inl (E.2.1 0, 16, .inl (fun _ => 0))), (q2, .inl (E.2.1 0, 16, .inl (fun _ => 0))), (q3, .inl (E.2.1 0, 8, .inl (fun _ => 0))), (q4, .inl (E.2.1 0, 8, .inl (fun _ => 0))), (q5, .inl (E.2.1 0, 8, .inl (fun _ => 0)))] H := hP
  have hD : va_D A [(q, .inr (0, [.int (0 : Int32), .int (0 : Int32), .int (0 : Int32), .ref q1, .ref q2, .ref q3, .ref q4, .null, .null, .null])), (q1, .inl (E.2.1 0, 16, .inl (fun _ => 0))), (q2, .inl (E.2.1 0, 16, .inl (fun _ => 0))), (q3, .inl (E.2.1 0, 8, .inl (fun _ => 0))), (q4, .inl (E.2.1 0, 8, .inl (fun _ => 0))), (q5, .inl (E.2.1 0, 8, .inl (fun _ => 0)))] := hD
  refine va_putF (D := E.1) (ci := 0) (v := .ref q5) (ty := .array .int) (C := RX0) (T := TX0) (N := 10) hx hb hts inX0 tyX0 tyX0_ok nmX0 hown hE.2.1 hP hD hS 0 rfl rfl 7 (by decide) (hE.w tw_44) (fun _ h9 => h9) rfl hin rfl (by decide +kernel) rfl rfl (Nat.le_of_ble_eq_true rfl) dX0_init_56 (fun H locs hP hD hS => ?_)
  have hP : va_P E.1 vwCl [(q, .inr (0, [.int (0 : Int32), .int (0 : Int32), .int (0 : Int32), .ref q1, .ref q2, .ref q3, .ref q4, .ref q5, .null, .null])), (q1, .inl (E.2.1 0, 16, .inl (fun _ => 0))), (q2, .inl (E.2.1 0, 16, .inl (fun _ => 0))), (q3, .inl (E.2.1 0, 8, .inl (fun _ => 0))), (q4, .inl (E.2.1 0, 8, .inl (fun _ => 0))), (q5, .inl (E.2.1 0, 8, .inl (fun _ => 0)))] H := hP
  have hD : va_D A [(q, .inr (0, [.int (0 : Int32), .int (0 : Int32), .int (0 : Int32), .ref q1, .ref q2, .ref q3, .ref q4, .ref q5, .null, .null])), (q1, .inl (E.2.1 0, 16, .inl (fun _ => 0))), (q2, .inl (E.2.1 0, 16, .inl (fun _ => 0))), (q3, .inl (E.2.1 0, 8, .inl (fun _ => 0))), (q4, .inl (E.2.1 0, 8, .inl (fun _ => 0))), (q5, .inl (E.2.1 0, 8, .inl (fun _ => 0)))] := hD
  refine lv_aload_n hx hb dX0_init_59 rfl (lv_at hl 0 rfl) ?_
  refine lv_bipush (v := (8 : Int32)) hx hb dX0_init_60 (by decide) ?_
  refine nw_i tw_70 hx hb hE hA hP hD hS (n := (8 : Int32)) (N := 8) (by decide) (by decide) (Nat.le_of_ble_eq_true rfl) (Nat.le_of_ble_eq_true rfl) (Nat.le_of_ble_eq_true rfl) dX0_init_62 (fun q6 H hP hD hS => ?_)
  refine W.widen (k := 6) (n := 64) (Nat.le_of_ble_eq_true rfl) (Nat.le_of_ble_eq_true rfl) ?_
  have hP : va_P E.1 vwCl [(q, .inr (0, [.int (0 : Int32), .int (0 : Int32), .int (0 : Int32), .ref q1, .ref q2, .ref q3, .ref q4, .ref q5, .null, .null])), (q1, .inl (E.2.1 0, 16, .inl (fun _ => 0))), (q2, .inl (E.2.1 0, 16, .inl (fun _ => 0))), (q3, .inl (E.2.1 0, 8, .inl (fun _ => 0))), (q4, .inl (E.2.1 0, 8, .inl (fun _ => 0))), (q5, .inl (E.2.1 0, 8, .inl (fun _ => 0))), (q6, .inl (E.2.1 0, 8, .inl (fun _ => 0)))] H := hP
  have hD : va_D A [(q, .inr (0, [.int (0 : Int32), .int (0 : Int32), .int (0 : Int32), .ref q1, .ref q2, .ref q3, .ref q4, .ref q5, .null, .null])), (q1, .inl (E.2.1 0, 16, .inl (fun _ => 0))), (q2, .inl (E.2.1 0, 16, .inl (fun _ => 0))), (q3, .inl (E.2.1 0, 8, .inl (fun _ => 0))), (q4, .inl (E.2.1 0, 8, .inl (fun _ => 0))), (q5, .inl (E.2.1 0, 8, .inl (fun _ => 0))), (q6, .inl (E.2.1 0, 8, .inl (fun _ => 0)))] := hD
  refine va_putF (D := E.1) (ci := 0) (v := .ref q6) (ty := .array .int) (C := RX0) (T := TX0) (N := 10) hx hb hts inX0 tyX0 tyX0_ok nmX0 hown hE.2.1 hP hD hS 0 rfl rfl 8 (by decide) (hE.w tw_46) (fun _ h9 => h9) rfl hin rfl (by decide +kernel) rfl rfl (Nat.le_of_ble_eq_true rfl) dX0_init_64 (fun H locs hP hD hS => ?_)
  have hP : va_P E.1 vwCl [(q, .inr (0, [.int (0 : Int32), .int (0 : Int32), .int (0 : Int32), .ref q1, .ref q2, .ref q3, .ref q4, .ref q5, .ref q6, .null])), (q1, .inl (E.2.1 0, 16, .inl (fun _ => 0))), (q2, .inl (E.2.1 0, 16, .inl (fun _ => 0))), (q3, .inl (E.2.1 0, 8, .inl (fun _ => 0))), (q4, .inl (E.2.1 0, 8, .inl (fun _ => 0))), (q5, .inl (E.2.1 0, 8, .inl (fun _ => 0))), (q6, .inl (E.2.1 0, 8, .inl (fun _ => 0)))] H := hP
  have hD : va_D A [(q, .inr (0, [.int (0 : Int32), .int (0 : Int32), .int (0 : Int32), .ref q1, .ref q2, .ref q3, .ref q4, .ref q5, .ref q6, .null])), (q1, .inl (E.2.1 0, 16, .inl (fun _ => 0))), (q2, .inl (E.2.1 0, 16, .inl (fun _ => 0))), (q3, .inl (E.2.1 0, 8, .inl (fun _ => 0))), (q4, .inl (E.2.1 0, 8, .inl (fun _ => 0))), (q5, .inl (E.2.1 0, 8, .inl (fun _ => 0))), (q6, .inl (E.2.1 0, 8, .inl (fun _ => 0)))] := hD
  refine lv_aload_n hx hb dX0_init_67 rfl (lv_at hl 0 rfl) ?_
  refine lv_bipush (v := (8 : Int32)) hx hb dX0_init_68 (by decide) ?_
  refine nw_i tw_70 hx hb hE hA hP hD hS (n := (8 : Int32)) (N := 8) (by decide) (by decide) (Nat.le_of_ble_eq_true rfl) (Nat.le_of_ble_eq_true rfl) (Nat.le_of_ble_eq_true rfl) dX0_init_70 (fun q7 H hP hD hS => ?_)
  refine W.widen (k := 7) (n := 72) (Nat.le_of_ble_eq_true rfl) (Nat.le_of_ble_eq_true rfl) ?_
  have hP : va_P E.1 vwCl [(q, .inr (0, [.int (0 : Int32), .int (0 : Int32), .int (0 : Int32), .ref q1, .ref q2, .ref q3, .ref q4, .ref q5, .ref q6, .null])), (q1, .inl (E.2.1 0, 16, .inl (fun _ => 0))), (q2, .inl (E.2.1 0, 16, .inl (fun _ => 0))), (q3, .inl (E.2.1 0, 8, .inl (fun _ => 0))), (q4, .inl (E.2.1 0, 8, .inl (fun _ => 0))), (q5, .inl (E.2.1 0, 8, .inl (fun _ => 0))), (q6, .inl (E.2.1 0, 8, .inl (fun _ => 0))), (q7, .inl (E.2.1 0, 8, .inl (fun _ => 0)))] H := hP
  have hD : va_D A [(q, .inr (0, [.int (0 : Int32), .int (0 : Int32), .int (0 : Int32), .ref q1, .ref q2, .ref q3, .ref q4, .ref q5, .ref q6, .null])), (q1, .inl (E.2.1 0, 16, .inl (fun _ => 0))), (q2, .inl (E.2.1 0, 16, .inl (fun _ => 0))), (q3, .inl (E.2.1 0, 8, .inl (fun _ => 0))), (q4, .inl (E.2.1 0, 8, .inl (fun _ => 0))), (q5, .inl (E.2.1 0, 8, .inl (fun _ => 0))), (q6, .inl (E.2.1 0, 8, .inl (fun _ => 0))), (q7, .inl (E.2.1 0, 8, .inl (fun _ => 0)))] := hD
  refine va_putF (D := E.1) (ci := 0) (v := .ref q7) (ty := .array .int) (C := RX0) (T := TX0) (N := 10) hx hb hts inX0 tyX0 tyX0_ok nmX0 hown hE.2.1 hP hD hS 0 rfl rfl 9 (by decide) (hE.w tw_48) (fun _ h9 => h9) rfl hin rfl (by decide +kernel) rfl rfl (Nat.le_of_ble_eq_true rfl) dX0_init_72 (fun H locs hP hD hS => ?_)
  have hP : va_P E.1 vwCl [(q, .inr (0, [.int (0 : Int32), .int (0 : Int32), .int (0 : Int32), .ref q1, .ref q2, .ref q3, .ref q4, .ref q5, .ref q6, .ref q7])), (q1, .inl (E.2.1 0, 16, .inl (fun _ => 0))), (q2, .inl (E.2.1 0, 16, .inl (fun _ => 0))), (q3, .inl (E.2.1 0, 8, .inl (fun _ => 0))), (q4, .inl (E.2.1 0, 8, .inl (fun _ => 0))), (q5, .inl (E.2.1 0, 8, .inl (fun _ => 0))), (q6, .inl (E.2.1 0, 8, .inl (fun _ => 0))), (q7, .inl (E.2.1 0, 8, .inl (fun _ => 0)))] H := hP
  have hD : va_D A [(q, .inr (0, [.int (0 : Int32), .int (0 : Int32), .int (0 : Int32), .ref q1, .ref q2, .ref q3, .ref q4, .ref q5, .ref q6, .ref q7])), (q1, .inl (E.2.1 0, 16, .inl (fun _ => 0))), (q2, .inl (E.2.1 0, 16, .inl (fun _ => 0))), (q3, .inl (E.2.1 0, 8, .inl (fun _ => 0))), (q4, .inl (E.2.1 0, 8, .inl (fun _ => 0))), (q5, .inl (E.2.1 0, 8, .inl (fun _ => 0))), (q6, .inl (E.2.1 0, 8, .inl (fun _ => 0))), (q7, .inl (E.2.1 0, 8, .inl (fun _ => 0)))] := hD
  have hP : va_P E.1 vwCl (wX0 E (fun k => [q, 0, 0, 0, q1, q2, q3, q4, q5, q6, q7].getD k 0) zX0) H := hP
  have hD : va_D A (wX0 E (fun k => [q, 0, 0, 0, q1, q2, q3, q4, q5, q6, q7].getD k 0) zX0) := hD
  unfold f_X0_init at hf
  generalize zX0 = h at hP hD hf
  refine lv_iconst (v := (0 : Int32)) hx hb dX0_init_75 (by decide) ?_
  refine lv_istore_n (lv' := [(1, .int (0 : Int32)), (0, .ref q)]) hx hb dX0_init_76 rfl hl (by decide) rfl (fun ls hl => ?_)
  have L_1 : ∀ (k_1 : Nat) (v1_1 : Int32) (h_1 : HS), lp_X0_init_77  k_1 v1_1 h_1 = some h' → ∀ (H : Heap) (locs : List Loc) (ls : Array Slot), va_P E.1 vwCl (wX0 E (fun k => [q, 0, 0, 0, q1, q2, q3, q4, q5, q6, q7].getD k 0) h_1) H → va_D A (wX0 E (fun k => [q, 0, 0, 0, q1, q2, q3, q4, q5, q6, q7].getD k 0) h_1) → va_S A s.heap H locs → lv_has ls 2 [(1, .int v1_1), (0, .ref q)] → W p l e ({ frames := 1, cells := 7, slots := 72, locals := 12 }) s m [Value.ref q].toArray below meth c H locs 7 72 (MQ below (Qcn E A (fun w1 => ∃ a : Nat → Nat, a 0 = q ∧ w1 = wX0 E a h')) [Value.ref q].toArray s 7 72 A) (F0 m 77 ls []) := by
    intro k_1
    induction k_1 with
    | zero =>
      intro v1_1 h_1 hf
      rw [lp_X0_init_77] at hf
      cases hf
    | succ k_1 ih_1 =>
      intro v1_1 h_1 hf H locs ls hP hD hS hl
      rw [lp_X0_init_77] at hf
      refine lv_iload_n hx hb dX0_init_77 rfl (lv_at hl 0 rfl) ?_
      refine lv_bipush (v := (16 : Int32)) hx hb dX0_init_78 (by decide) ?_
      refine lv_icmp_ge (tgt := 105) hx hb dX0_init_80 (by decide) (fun c2 => ?_) (fun c2 => ?_)
      · have hf := ip c2 hf
        obtain rfl := so1 hf
        exact rt_n ⟨(fun k => [q, 0, 0, 0, q1, q2, q3, q4, q5, q6, q7].getD k 0), rfl, rfl⟩ hx hb hr hlocks hP hD hS dX0_init_105
      · have hf := im c2 hf
        refine lv_aload_n hx hb dX0_init_83 rfl (lv_at hl 1 rfl) ?_
        refine va_get (D := E.1) (ci := 0) (v := .ref q1) (C := RX0) (T := TX0) (N := 10) hx hb hts inX0 hown hE.2.1 hP 0 rfl rfl 3 (by decide) (hE.w tw_33) (fun _ h9 => h9) rfl dX0_init_84 ?_
        refine lv_iload_n hx hb dX0_init_87 rfl (lv_at hl 0 rfl) ?_
        refine lv_iload_n hx hb dX0_init_88 rfl (lv_at hl 0 rfl) ?_
        refine lv_iconst (v := (5 : Int32)) hx hb dX0_init_89 (by decide) ?_
        refine lv_irem hx hb dX0_init_90 (by decide) ?_
        obtain ⟨hg3, hf⟩ := gd_some hf
        obtain ⟨h_4, eh_4, hf⟩ := jn1_some hf
        refine va_iast hx hb hE.2.1 hP hD hS 1 0 rfl rfl hg3 dX0_init_91 (fun H locs hP hD hS => ?_)
        have hP : va_P E.1 vwCl (wX0 E (fun k => [q, 0, 0, 0, q1, q2, q3, q4, q5, q6, q7].getD k 0) h_4) H := wst (by rw [eh_4]; exact rfl) hP
        have hD : va_D A (wX0 E (fun k => [q, 0, 0, 0, q1, q2, q3, q4, q5, q6, q7].getD k 0) h_4) := wsd (by rw [eh_4]; exact rfl) hD
        refine lv_aload_n hx hb dX0_init_92 rfl (lv_at hl 1 rfl) ?_
        refine va_get (D := E.1) (ci := 0) (v := .ref q2) (C := RX0) (T := TX0) (N := 10) hx hb hts inX0 hown hE.2.1 hP 0 rfl rfl 4 (by decide) (hE.w tw_36) (fun _ h9 => h9) rfl dX0_init_93 ?_
        refine lv_iload_n hx hb dX0_init_96 rfl (lv_at hl 0 rfl) ?_
        refine lv_iconst (v := (5 : Int32)) hx hb dX0_init_97 (by decide) ?_
        obtain ⟨hg5, hf⟩ := gd_some hf
        obtain ⟨h_6, eh_6, hf⟩ := jn1_some hf
        refine va_iast hx hb hE.2.1 hP hD hS 2 0 rfl rfl hg5 dX0_init_98 (fun H locs hP hD hS => ?_)
        have hP : va_P E.1 vwCl (wX0 E (fun k => [q, 0, 0, 0, q1, q2, q3, q4, q5, q6, q7].getD k 0) h_6) H := wst (by rw [eh_6]; exact rfl) hP
        have hD : va_D A (wX0 E (fun k => [q, 0, 0, 0, q1, q2, q3, q4, q5, q6, q7].getD k 0) h_6) := wsd (by rw [eh_6]; exact rfl) hD
        refine lv_iinc (v := (v1_1 + (1 : Int32))) (lv' := [(1, .int (v1_1 + (1 : Int32))), (0, .ref q)]) hx hb dX0_init_99 hl (k := 0) rfl rfl (by decide) rfl (fun ls hl => ?_)
        refine lv_goto (tgt := 77) hx hb dX0_init_102 (by decide) ?_
        exact ih_1 _ _ hf _ _ _ hP hD hS (lv_sub hl [0, 1] rfl)
  exact L_1 _ _ _ hf _ _ _ hP hD hS (lv_sub hl [0, 1] rfl)
def zX1 : SS := ((fun _ => 0 : FL), (0 : Int32), (0 : Int32))
def f_X1_init (sh : SS) : Option (SS) := some (sh)
set_option maxHeartbeats 4000000 in
set_option maxRecDepth 100000 in
theorem c_X1_init (l : Launch) (E : EV) (q : Nat) (h' : SS) (hf : f_X1_init zX1 = some h') : Cn l E yX1_init cX1_init 1 ({ frames := 1, cells := 1, slots := 40, locals := 12 }) q 1 [.null, .int 0, .int 0] 1 40 (fun w1 => ∃ a : Nat → Nat, a 0 = q ∧ w1 = wX1 E a h') := by
  refine Cn.of (by decide) (by decide) rfl ?_
  intro p e s m below meth c A ls hC hin hO hP hD hl
  obtain ⟨hx, hb, hr, hml, hown, hlocks, hE, hA⟩ := hC
  have hts : ∀ w ∈ tbl, w.before [Value.ref q].toArray s = true := fun w hw => hE.w hw
  have hS : va_S A s.heap s.heap [] := va_S.rf
  refine lv_aload_n hx hb dX1_init_0 rfl (lv_at hl 0 rfl) ?_
  refine W.objInit hx hb hown (hE.w tw_104) (hE.w tw_18) (hE.w tw_19) rfl (by rw [hml]; exact hl.1) rfl dX1_init_1 (Nat.le_of_ble_eq_true rfl) (Nat.le_of_ble_eq_true rfl) ?_
  refine W.eq (g2 := F0 m 4 ls []) rfl ?_
  refine lv_aload_n hx hb dX1_init_4 rfl (lv_at hl 0 rfl) ?_
  refine lv_bipush (v := (40 : Int32)) hx hb dX1_init_5 (by decide) ?_
  refine nw_l tw_118 hx hb hE hA hP hD hS (n := (40 : Int32)) (N := 40) (by decide) (by decide) (Nat.le_of_ble_eq_true rfl) (Nat.le_of_ble_eq_true rfl) (Nat.le_of_ble_eq_true rfl) dX1_init_7 (fun q1 H hP hD hS => ?_)
  refine W.widen (k := 1) (n := 40) (Nat.le_of_ble_eq_true rfl) (Nat.le_of_ble_eq_true rfl) ?_
  have hP : va_P E.1 vwCl [(q, .inr (1, [.null, .int 0, .int 0])), (q1, .inl (E.2.1 1, 40, .inr (.inl (fun _ => 0))))] H := hP
  have hD : va_D A [(q, .inr (1, [.null, .int 0, .int 0])), (q1, .inl (E.2.1 1, 40, .inr (.inl (fun _ => 0))))] := hD
  refine va_putF (D := E.1) (ci := 1) (v := .ref q1) (ty := .array .long) (C := RX1) (T := TX1) (N := 3) hx hb hts inX1 tyX1 tyX1_ok nmX1 hown hE.2.1 hP hD hS 0 rfl rfl 0 (by decide) (hE.w tw_105) (fun _ h9 => h9) rfl hin rfl (by decide +kernel) rfl rfl (Nat.le_of_ble_eq_true rfl) dX1_init_9 (fun H locs hP hD hS => ?_)
  have hP : va_P E.1 vwCl [(q, .inr (1, [.ref q1, .int 0, .int 0])), (q1, .inl (E.2.1 1, 40, .inr (.inl (fun _ => 0))))] H := hP
  have hD : va_D A [(q, .inr (1, [.ref q1, .int 0, .int 0])), (q1, .inl (E.2.1 1, 40, .inr (.inl (fun _ => 0))))] := hD
  refine lv_aload_n hx hb dX1_init_12 rfl (lv_at hl 0 rfl) ?_
  refine lv_iconst (v := (0 : Int32)) hx hb dX1_init_13 (by decide) ?_
  refine va_put (D := E.1) (ci := 1) (v := .int (0 : Int32)) (ty := .int) (C := RX1) (T := TX1) (N := 3) hx hb hts inX1 tyX1 tyX1_ok nmX1 hown hE.2.1 hP hD hS 0 rfl rfl 1 (by decide) (hE.w tw_107) (fun _ h9 => h9) rfl (by decide +kernel) rfl rfl (Nat.le_of_ble_eq_true rfl) dX1_init_14 (fun H locs hP hD hS => ?_)
  have hP : va_P E.1 vwCl [(q, .inr (1, [.ref q1, .int (0 : Int32), .int 0])), (q1, .inl (E.2.1 1, 40, .inr (.inl (fun _ => 0))))] H := hP
  have hD : va_D A [(q, .inr (1, [.ref q1, .int (0 : Int32), .int 0])), (q1, .inl (E.2.1 1, 40, .inr (.inl (fun _ => 0))))] := hD
  refine lv_aload_n hx hb dX1_init_17 rfl (lv_at hl 0 rfl) ?_
  refine lv_iconst (v := (0 : Int32)) hx hb dX1_init_18 (by decide) ?_
  refine va_put (D := E.1) (ci := 1) (v := .int (0 : Int32)) (ty := .int) (C := RX1) (T := TX1) (N := 3) hx hb hts inX1 tyX1 tyX1_ok nmX1 hown hE.2.1 hP hD hS 0 rfl rfl 2 (by decide) (hE.w tw_109) (fun _ h9 => h9) rfl (by decide +kernel) rfl rfl (Nat.le_of_ble_eq_true rfl) dX1_init_19 (fun H locs hP hD hS => ?_)
  have hP : va_P E.1 vwCl [(q, .inr (1, [.ref q1, .int (0 : Int32), .int (0 : Int32)])), (q1, .inl (E.2.1 1, 40, .inr (.inl (fun _ => 0))))] H := hP
  have hD : va_D A [(q, .inr (1, [.ref q1, .int (0 : Int32), .int (0 : Int32)])), (q1, .inl (E.2.1 1, 40, .inr (.inl (fun _ => 0))))] := hD
  have hP : va_P E.1 vwCl (wX1 E (fun k => [q, q1, 0, 0].getD k 0) zX1) H := hP
  have hD : va_D A (wX1 E (fun k => [q, q1, 0, 0].getD k 0) zX1) := hD
  unfold f_X1_init at hf
  generalize zX1 = sh at hP hD hf
  obtain rfl := so1 hf
  exact rt_n ⟨(fun k => [q, q1, 0, 0].getD k 0), rfl, rfl⟩ hx hb hr hlocks hP hD hS dX1_init_22
def zX2 : TS := ((fun _ => 0 : FI), (0 : Int32), (0 : Int32), (0 : Int32), (0 : Int32), (0 : Int32))
def f_X2_init (t : TS) : Option (TS) := some (t)
set_option maxHeartbeats 4000000 in
set_option maxRecDepth 100000 in
theorem c_X2_init (l : Launch) (E : EV) (q : Nat) (h' : TS) (hf : f_X2_init zX2 = some h') : Cn l E yX2_init cX2_init 1 ({ frames := 1, cells := 1, slots := 120, locals := 12 }) q 2 [.null, .int 0, .int 0, .int 0, .int 0, .int 0] 1 120 (fun w1 => ∃ a : Nat → Nat, a 0 = q ∧ w1 = wX2 E a h') := by
  refine Cn.of (by decide) (by decide) rfl ?_
  intro p e s m below meth c A ls hC hin hO hP hD hl
  obtain ⟨hx, hb, hr, hml, hown, hlocks, hE, hA⟩ := hC
  have hts : ∀ w ∈ tbl, w.before [Value.ref q].toArray s = true := fun w hw => hE.w hw
  have hS : va_S A s.heap s.heap [] := va_S.rf
  refine lv_aload_n hx hb dX2_init_0 rfl (lv_at hl 0 rfl) ?_
  refine W.objInit hx hb hown (hE.w tw_76) (hE.w tw_18) (hE.w tw_19) rfl (by rw [hml]; exact hl.1) rfl dX2_init_1 (Nat.le_of_ble_eq_true rfl) (Nat.le_of_ble_eq_true rfl) ?_
  refine W.eq (g2 := F0 m 4 ls []) rfl ?_
  refine lv_aload_n hx hb dX2_init_4 rfl (lv_at hl 0 rfl) ?_
  refine lv_bipush (v := (120 : Int32)) hx hb dX2_init_5 (by decide) ?_
  refine nw_b tw_97 hx hb hE hA hP hD hS (n := (120 : Int32)) (N := 120) (by decide) (by decide) (Nat.le_of_ble_eq_true rfl) (Nat.le_of_ble_eq_true rfl) (Nat.le_of_ble_eq_true rfl) dX2_init_7 (fun q1 H hP hD hS => ?_)
  refine W.widen (k := 1) (n := 120) (Nat.le_of_ble_eq_true rfl) (Nat.le_of_ble_eq_true rfl) ?_
  have hP : va_P E.1 vwCl [(q, .inr (2, [.null, .int 0, .int 0, .int 0, .int 0, .int 0])), (q1, .inl (E.2.1 2, 120, .inl (fun _ => 0)))] H := hP
  have hD : va_D A [(q, .inr (2, [.null, .int 0, .int 0, .int 0, .int 0, .int 0])), (q1, .inl (E.2.1 2, 120, .inl (fun _ => 0)))] := hD
  refine va_putF (D := E.1) (ci := 2) (v := .ref q1) (ty := .array .byte) (C := RX2) (T := TX2) (N := 6) hx hb hts inX2 tyX2 tyX2_ok nmX2 hown hE.2.1 hP hD hS 0 rfl rfl 0 (by decide) (hE.w tw_77) (fun _ h9 => h9) rfl hin rfl (by decide +kernel) rfl rfl (Nat.le_of_ble_eq_true rfl) dX2_init_9 (fun H locs hP hD hS => ?_)
  have hP : va_P E.1 vwCl [(q, .inr (2, [.ref q1, .int 0, .int 0, .int 0, .int 0, .int 0])), (q1, .inl (E.2.1 2, 120, .inl (fun _ => 0)))] H := hP
  have hD : va_D A [(q, .inr (2, [.ref q1, .int 0, .int 0, .int 0, .int 0, .int 0])), (q1, .inl (E.2.1 2, 120, .inl (fun _ => 0)))] := hD
  refine lv_aload_n hx hb dX2_init_12 rfl (lv_at hl 0 rfl) ?_
  refine lv_iconst (v := (0 : Int32)) hx hb dX2_init_13 (by decide) ?_
  refine va_put (D := E.1) (ci := 2) (v := .int (0 : Int32)) (ty := .int) (C := RX2) (T := TX2) (N := 6) hx hb hts inX2 tyX2 tyX2_ok nmX2 hown hE.2.1 hP hD hS 0 rfl rfl 1 (by decide) (hE.w tw_78) (fun _ h9 => h9) rfl (by decide +kernel) rfl rfl (Nat.le_of_ble_eq_true rfl) dX2_init_14 (fun H locs hP hD hS => ?_)
  have hP : va_P E.1 vwCl [(q, .inr (2, [.ref q1, .int (0 : Int32), .int 0, .int 0, .int 0, .int 0])), (q1, .inl (E.2.1 2, 120, .inl (fun _ => 0)))] H := hP
  have hD : va_D A [(q, .inr (2, [.ref q1, .int (0 : Int32), .int 0, .int 0, .int 0, .int 0])), (q1, .inl (E.2.1 2, 120, .inl (fun _ => 0)))] := hD
  refine lv_aload_n hx hb dX2_init_17 rfl (lv_at hl 0 rfl) ?_
  refine lv_iconst (v := (0 : Int32)) hx hb dX2_init_18 (by decide) ?_
  refine va_put (D := E.1) (ci := 2) (v := .int (0 : Int32)) (ty := .int) (C := RX2) (T := TX2) (N := 6) hx hb hts inX2 tyX2 tyX2_ok nmX2 hown hE.2.1 hP hD hS 0 rfl rfl 2 (by decide) (hE.w tw_80) (fun _ h9 => h9) rfl (by decide +kernel) rfl rfl (Nat.le_of_ble_eq_true rfl) dX2_init_19 (fun H locs hP hD hS => ?_)
  have hP : va_P E.1 vwCl [(q, .inr (2, [.ref q1, .int (0 : Int32), .int (0 : Int32), .int 0, .int 0, .int 0])), (q1, .inl (E.2.1 2, 120, .inl (fun _ => 0)))] H := hP
  have hD : va_D A [(q, .inr (2, [.ref q1, .int (0 : Int32), .int (0 : Int32), .int 0, .int 0, .int 0])), (q1, .inl (E.2.1 2, 120, .inl (fun _ => 0)))] := hD
  refine lv_aload_n hx hb dX2_init_22 rfl (lv_at hl 0 rfl) ?_
  refine lv_iconst (v := (0 : Int32)) hx hb dX2_init_23 (by decide) ?_
  refine va_put (D := E.1) (ci := 2) (v := .int (0 : Int32)) (ty := .int) (C := RX2) (T := TX2) (N := 6) hx hb hts inX2 tyX2 tyX2_ok nmX2 hown hE.2.1 hP hD hS 0 rfl rfl 3 (by decide) (hE.w tw_81) (fun _ h9 => h9) rfl (by decide +kernel) rfl rfl (Nat.le_of_ble_eq_true rfl) dX2_init_24 (fun H locs hP hD hS => ?_)
  have hP : va_P E.1 vwCl [(q, .inr (2, [.ref q1, .int (0 : Int32), .int (0 : Int32), .int (0 : Int32), .int 0, .int 0])), (q1, .inl (E.2.1 2, 120, .inl (fun _ => 0)))] H := hP
  have hD : va_D A [(q, .inr (2, [.ref q1, .int (0 : Int32), .int (0 : Int32), .int (0 : Int32), .int 0, .int 0])), (q1, .inl (E.2.1 2, 120, .inl (fun _ => 0)))] := hD
  refine lv_aload_n hx hb dX2_init_27 rfl (lv_at hl 0 rfl) ?_
  refine lv_iconst (v := (0 : Int32)) hx hb dX2_init_28 (by decide) ?_
  refine va_put (D := E.1) (ci := 2) (v := .int (0 : Int32)) (ty := .int) (C := RX2) (T := TX2) (N := 6) hx hb hts inX2 tyX2 tyX2_ok nmX2 hown hE.2.1 hP hD hS 0 rfl rfl 4 (by decide) (hE.w tw_82) (fun _ h9 => h9) rfl (by decide +kernel) rfl rfl (Nat.le_of_ble_eq_true rfl) dX2_init_29 (fun H locs hP hD hS => ?_)
  have hP : va_P E.1 vwCl [(q, .inr (2, [.ref q1, .int (0 : Int32), .int (0 : Int32), .int (0 : Int32), .int (0 : Int32), .int 0])), (q1, .inl (E.2.1 2, 120, .inl (fun _ => 0)))] H := hP
  have hD : va_D A [(q, .inr (2, [.ref q1, .int (0 : Int32), .int (0 : Int32), .int (0 : Int32), .int (0 : Int32), .int 0])), (q1, .inl (E.2.1 2, 120, .inl (fun _ => 0)))] := hD
  refine lv_aload_n hx hb dX2_init_32 rfl (lv_at hl 0 rfl) ?_
  refine lv_iconst (v := (0 : Int32)) hx hb dX2_init_33 (by decide) ?_
  refine va_put (D := E.1) (ci := 2) (v := .int (0 : Int32)) (ty := .int) (C := RX2) (T := TX2) (N := 6) hx hb hts inX2 tyX2 tyX2_ok nmX2 hown hE.2.1 hP hD hS 0 rfl rfl 5 (by decide) (hE.w tw_83) (fun _ h9 => h9) rfl (by decide +kernel) rfl rfl (Nat.le_of_ble_eq_true rfl) dX2_init_34 (fun H locs hP hD hS => ?_)
  have hP : va_P E.1 vwCl [(q, .inr (2, [.ref q1, .int (0 : Int32), .int (0 : Int32), .int (0 : Int32), .int (0 : Int32), .int (0 : Int32)])), (q1, .inl (E.2.1 2, 120, .inl (fun _ => 0)))] H := hP
  have hD : va_D A [(q, .inr (2, [.ref q1, .int (0 : Int32), .int (0 : Int32), .int (0 : Int32), .int (0 : Int32), .int (0 : Int32)])), (q1, .inl (E.2.1 2, 120, .inl (fun _ => 0)))] := hD
  have hP : va_P E.1 vwCl (wX2 E (fun k => [q, q1, 0, 0, 0, 0, 0].getD k 0) zX2) H := hP
  have hD : va_D A (wX2 E (fun k => [q, q1, 0, 0, 0, 0, 0].getD k 0) zX2) := hD
  unfold f_X2_init at hf
  generalize zX2 = t at hP hD hf
  obtain rfl := so1 hf
  exact rt_n ⟨(fun k => [q, q1, 0, 0, 0, 0, 0].getD k 0), rfl, rfl⟩ hx hb hr hlocks hP hD hS dX2_init_37
def zX4 : MS := ((fun _ => 0 : FI), (fun _ => 0 : FI), (fun _ => 0 : FI), (fun _ => 0 : FI), (0 : Int32), (fun _ => 0 : FI), (fun _ => 0 : FI), (0 : Int32), (fun _ => 0 : FI), (0 : Int32), (0 : Int32), (0 : Int32), (0 : Int64), (0 : Int32), (fun _ => 0 : FI), (fun _ => 0 : FI), (fun _ => 0 : FL), (fun _ => 0 : FL))
def lp_X4_init_93  : Nat → (Int32) → (MS) → Option (MS)
  | 0, _, _ => none
  | k_1 + 1, v1_1, m0_1 => if (16 : Int32) ≤ v1_1 then some (m0_1) else gd ((3 : Int32) + v1_1) 67 (jn1 (s4_d m0_1 (upd (g4_d m0_1) ((3 : Int32) + v1_1).toNatClampNeg (v1_1 - (v1_1 / (5 : Int32)) * (5 : Int32)))) (fun m_4 => gd ((19 : Int32) + v1_1) 67 (jn1 (s4_d m_4 (upd (g4_d m_4) ((19 : Int32) + v1_1).toNatClampNeg (5 : Int32))) (fun m_6 => lp_X4_init_93  k_1 (v1_1 + (1 : Int32)) m_6))))
def f_X4_init (m0 : MS) : Option (MS) := lp_X4_init_93  FU (0 : Int32) m0
set_option maxHeartbeats 4000000 in
set_option maxRecDepth 100000 in
theorem c_X4_init (l : Launch) (E : EV) (q : Nat) (h' : MS) (hf : f_X4_init zX4 = some h') : Cn l E yX4_init cX4_init 2 ({ frames := 1, cells := 11, slots := 611, locals := 12 }) q 4 [.null, .null, .null, .null, .int 0, .null, .null, .int 0, .null, .int 0, .int 0, .int 0, .long 0, .int 0, .null, .null, .null, .null] 11 611 (fun w1 => ∃ a : Nat → Nat, a 0 = q ∧ w1 = wX4 E a h') := by
  refine Cn.of (by decide) (by decide) rfl ?_
  intro p e s m below meth c A ls hC hin hO hP hD hl
  obtain ⟨hx, hb, hr, hml, hown, hlocks, hE, hA⟩ := hC
  have hts : ∀ w ∈ tbl, w.before [Value.ref q].toArray s = true := fun w hw => hE.w hw
  have hS : va_S A s.heap s.heap [] := va_S.rf
  refine lv_aload_n hx hb dX4_init_0 rfl (lv_at hl 0 rfl) ?_
  refine W.objInit hx hb hown (hE.w tw_597) (hE.w tw_18) (hE.w tw_19) rfl (by rw [hml]; exact hl.1) rfl dX4_init_1 (Nat.le_of_ble_eq_true rfl) (Nat.le_of_ble_eq_true rfl) ?_
  refine W.eq (g2 := F0 m 4 ls []) rfl ?_
  refine lv_aload_n hx hb dX4_init_4 rfl (lv_at hl 0 rfl) ?_
  refine lv_bipush (v := (67 : Int32)) hx hb dX4_init_5 (by decide) ?_
  refine nw_i tw_70 hx hb hE hA hP hD hS (n := (67 : Int32)) (N := 67) (by decide) (by decide) (Nat.le_of_ble_eq_true rfl) (Nat.le_of_ble_eq_true rfl) (Nat.le_of_ble_eq_true rfl) dX4_init_7 (fun q1 H hP hD hS => ?_)
  refine W.widen (k := 1) (n := 67) (Nat.le_of_ble_eq_true rfl) (Nat.le_of_ble_eq_true rfl) ?_
  have hP : va_P E.1 vwCl [(q, .inr (4, [.null, .null, .null, .null, .int 0, .null, .null, .int 0, .null, .int 0, .int 0, .int 0, .long 0, .int 0, .null, .null, .null, .null])), (q1, .inl (E.2.1 0, 67, .inl (fun _ => 0)))] H := hP
  have hD : va_D A [(q, .inr (4, [.null, .null, .null, .null, .int 0, .null, .null, .int 0, .null, .int 0, .int 0, .int 0, .long 0, .int 0, .null, .null, .null, .null])), (q1, .inl (E.2.1 0, 67, .inl (fun _ => 0)))] := hD
  refine va_putF (D := E.1) (ci := 4) (v := .ref q1) (ty := .array .int) (C := RX4) (T := TX4) (N := 18) hx hb hts inX4 tyX4 tyX4_ok nmX4 hown hE.2.1 hP hD hS 0 rfl rfl 0 (by decide) (hE.w tw_598) (fun _ h9 => h9) rfl hin rfl (by decide +kernel) rfl rfl (Nat.le_of_ble_eq_true rfl) dX4_init_9 (fun H locs hP hD hS => ?_)
  have hP : va_P E.1 vwCl [(q, .inr (4, [.ref q1, .null, .null, .null, .int 0, .null, .null, .int 0, .null, .int 0, .int 0, .int 0, .long 0, .int 0, .null, .null, .null, .null])), (q1, .inl (E.2.1 0, 67, .inl (fun _ => 0)))] H := hP
  have hD : va_D A [(q, .inr (4, [.ref q1, .null, .null, .null, .int 0, .null, .null, .int 0, .null, .int 0, .int 0, .int 0, .long 0, .int 0, .null, .null, .null, .null])), (q1, .inl (E.2.1 0, 67, .inl (fun _ => 0)))] := hD
  refine lv_aload_n hx hb dX4_init_12 rfl (lv_at hl 0 rfl) ?_
  refine lv_bipush (v := (67 : Int32)) hx hb dX4_init_13 (by decide) ?_
  refine nw_i tw_70 hx hb hE hA hP hD hS (n := (67 : Int32)) (N := 67) (by decide) (by decide) (Nat.le_of_ble_eq_true rfl) (Nat.le_of_ble_eq_true rfl) (Nat.le_of_ble_eq_true rfl) dX4_init_15 (fun q2 H hP hD hS => ?_)
  refine W.widen (k := 2) (n := 134) (Nat.le_of_ble_eq_true rfl) (Nat.le_of_ble_eq_true rfl) ?_
  have hP : va_P E.1 vwCl [(q, .inr (4, [.ref q1, .null, .null, .null, .int 0, .null, .null, .int 0, .null, .int 0, .int 0, .int 0, .long 0, .int 0, .null, .null, .null, .null])), (q1, .inl (E.2.1 0, 67, .inl (fun _ => 0))), (q2, .inl (E.2.1 0, 67, .inl (fun _ => 0)))] H := hP
  have hD : va_D A [(q, .inr (4, [.ref q1, .null, .null, .null, .int 0, .null, .null, .int 0, .null, .int 0, .int 0, .int 0, .long 0, .int 0, .null, .null, .null, .null])), (q1, .inl (E.2.1 0, 67, .inl (fun _ => 0))), (q2, .inl (E.2.1 0, 67, .inl (fun _ => 0)))] := hD
  refine va_putF (D := E.1) (ci := 4) (v := .ref q2) (ty := .array .int) (C := RX4) (T := TX4) (N := 18) hx hb hts inX4 tyX4 tyX4_ok nmX4 hown hE.2.1 hP hD hS 0 rfl rfl 1 (by decide) (hE.w tw_599) (fun _ h9 => h9) rfl hin rfl (by decide +kernel) rfl rfl (Nat.le_of_ble_eq_true rfl) dX4_init_17 (fun H locs hP hD hS => ?_)
  have hP : va_P E.1 vwCl [(q, .inr (4, [.ref q1, .ref q2, .null, .null, .int 0, .null, .null, .int 0, .null, .int 0, .int 0, .int 0, .long 0, .int 0, .null, .null, .null, .null])), (q1, .inl (E.2.1 0, 67, .inl (fun _ => 0))), (q2, .inl (E.2.1 0, 67, .inl (fun _ => 0)))] H := hP
  have hD : va_D A [(q, .inr (4, [.ref q1, .ref q2, .null, .null, .int 0, .null, .null, .int 0, .null, .int 0, .int 0, .int 0, .long 0, .int 0, .null, .null, .null, .null])), (q1, .inl (E.2.1 0, 67, .inl (fun _ => 0))), (q2, .inl (E.2.1 0, 67, .inl (fun _ => 0)))] := hD
  refine lv_aload_n hx hb dX4_init_20 rfl (lv_at hl 0 rfl) ?_
  refine lv_bipush (v := (67 : Int32)) hx hb dX4_init_21 (by decide) ?_
  refine nw_i tw_70 hx hb hE hA hP hD hS (n := (67 : Int32)) (N := 67) (by decide) (by decide) (Nat.le_of_ble_eq_true rfl) (Nat.le_of_ble_eq_true rfl) (Nat.le_of_ble_eq_true rfl) dX4_init_23 (fun q3 H hP hD hS => ?_)
  refine W.widen (k := 3) (n := 201) (Nat.le_of_ble_eq_true rfl) (Nat.le_of_ble_eq_true rfl) ?_
  have hP : va_P E.1 vwCl [(q, .inr (4, [.ref q1, .ref q2, .null, .null, .int 0, .null, .null, .int 0, .null, .int 0, .int 0, .int 0, .long 0, .int 0, .null, .null, .null, .null])), (q1, .inl (E.2.1 0, 67, .inl (fun _ => 0))), (q2, .inl (E.2.1 0, 67, .inl (fun _ => 0))), (q3, .inl (E.2.1 0, 67, .inl (fun _ => 0)))] H := hP
  have hD : va_D A [(q, .inr (4, [.ref q1, .ref q2, .null, .null, .int 0, .null, .null, .int 0, .null, .int 0, .int 0, .int 0, .long 0, .int 0, .null, .null, .null, .null])), (q1, .inl (E.2.1 0, 67, .inl (fun _ => 0))), (q2, .inl (E.2.1 0, 67, .inl (fun _ => 0))), (q3, .inl (E.2.1 0, 67, .inl (fun _ => 0)))] := hD
  refine va_putF (D := E.1) (ci := 4) (v := .ref q3) (ty := .array .int) (C := RX4) (T := TX4) (N := 18) hx hb hts inX4 tyX4 tyX4_ok nmX4 hown hE.2.1 hP hD hS 0 rfl rfl 2 (by decide) (hE.w tw_600) (fun _ h9 => h9) rfl hin rfl (by decide +kernel) rfl rfl (Nat.le_of_ble_eq_true rfl) dX4_init_25 (fun H locs hP hD hS => ?_)
  have hP : va_P E.1 vwCl [(q, .inr (4, [.ref q1, .ref q2, .ref q3, .null, .int 0, .null, .null, .int 0, .null, .int 0, .int 0, .int 0, .long 0, .int 0, .null, .null, .null, .null])), (q1, .inl (E.2.1 0, 67, .inl (fun _ => 0))), (q2, .inl (E.2.1 0, 67, .inl (fun _ => 0))), (q3, .inl (E.2.1 0, 67, .inl (fun _ => 0)))] H := hP
  have hD : va_D A [(q, .inr (4, [.ref q1, .ref q2, .ref q3, .null, .int 0, .null, .null, .int 0, .null, .int 0, .int 0, .int 0, .long 0, .int 0, .null, .null, .null, .null])), (q1, .inl (E.2.1 0, 67, .inl (fun _ => 0))), (q2, .inl (E.2.1 0, 67, .inl (fun _ => 0))), (q3, .inl (E.2.1 0, 67, .inl (fun _ => 0)))] := hD
  refine lv_aload_n hx hb dX4_init_28 rfl (lv_at hl 0 rfl) ?_
  refine lv_bipush (v := (67 : Int32)) hx hb dX4_init_29 (by decide) ?_
  refine nw_i tw_70 hx hb hE hA hP hD hS (n := (67 : Int32)) (N := 67) (by decide) (by decide) (Nat.le_of_ble_eq_true rfl) (Nat.le_of_ble_eq_true rfl) (Nat.le_of_ble_eq_true rfl) dX4_init_31 (fun q4 H hP hD hS => ?_)
  refine W.widen (k := 4) (n := 268) (Nat.le_of_ble_eq_true rfl) (Nat.le_of_ble_eq_true rfl) ?_
  have hP : va_P E.1 vwCl [(q, .inr (4, [.ref q1, .ref q2, .ref q3, .null, .int 0, .null, .null, .int 0, .null, .int 0, .int 0, .int 0, .long 0, .int 0, .null, .null, .null, .null])), (q1, .inl (E.2.1 0, 67, .inl (fun _ => 0))), (q2, .inl (E.2.1 0, 67, .inl (fun _ => 0))), (q3, .inl (E.2.1 0, 67, .inl (fun _ => 0))), (q4, .inl (E.2.1 0, 67, .inl (fun _ => 0)))] H := hP
  have hD : va_D A [(q, .inr (4, [.ref q1, .ref q2, .ref q3, .null, .int 0, .null, .null, .int 0, .null, .int 0, .int 0, .int 0, .long 0, .int 0, .null, .null, .null, .null])), (q1, .inl (E.2.1 0, 67, .inl (fun _ => 0))), (q2, .inl (E.2.1 0, 67, .inl (fun _ => 0))), (q3, .inl (E.2.1 0, 67, .inl (fun _ => 0))), (q4, .inl (E.2.1 0, 67, .inl (fun _ => 0)))] := hD
  refine va_putF (D := E.1) (ci := 4) (v := .ref q4) (ty := .array .int) (C := RX4) (T := TX4) (N := 18) hx hb hts inX4 tyX4 tyX4_ok nmX4 hown hE.2.1 hP hD hS 0 rfl rfl 3 (by decide) (hE.w tw_601) (fun _ h9 => h9) rfl hin rfl (by decide +kernel) rfl rfl (Nat.le_of_ble_eq_true rfl) dX4_init_33 (fun H locs hP hD hS => ?_)
  have hP : va_P E.1 vwCl [(q, .inr (4, [.ref q1, .ref q2, .ref q3, .ref q4, .int 0, .null, .null, .int 0, .null, .int 0, .int 0, .int 0, .long 0, .int 0, .null, .null, .null, .null])), (q1, .inl (E.2.1 0, 67, .inl (fun _ => 0))), (q2, .inl (E.2.1 0, 67, .inl (fun _ => 0))), (q3, .inl (E.2.1 0, 67, .inl (fun _ => 0))), (q4, .inl (E.2.1 0, 67, .inl (fun _ => 0)))] H := hP
  have hD : va_D A [(q, .inr (4, [.ref q1, .ref q2, .ref q3, .ref q4, .int 0, .null, .null, .int 0, .null, .int 0, .int 0, .int 0, .long 0, .int 0, .null, .null, .null, .null])), (q1, .inl (E.2.1 0, 67, .inl (fun _ => 0))), (q2, .inl (E.2.1 0, 67, .inl (fun _ => 0))), (q3, .inl (E.2.1 0, 67, .inl (fun _ => 0))), (q4, .inl (E.2.1 0, 67, .inl (fun _ => 0)))] := hD
  refine lv_aload_n hx hb dX4_init_36 rfl (lv_at hl 0 rfl) ?_
  refine lv_bipush (v := (7 : Int32)) hx hb dX4_init_37 (by decide) ?_
  refine nw_i tw_70 hx hb hE hA hP hD hS (n := (7 : Int32)) (N := 7) (by decide) (by decide) (Nat.le_of_ble_eq_true rfl) (Nat.le_of_ble_eq_true rfl) (Nat.le_of_ble_eq_true rfl) dX4_init_39 (fun q5 H hP hD hS => ?_)
  refine W.widen (k := 5) (n := 275) (Nat.le_of_ble_eq_true rfl) (Nat.le_of_ble_eq_true rfl) ?_
  have hP : va_P E.1 vwCl [(q, .inr (4, [.ref q1, .ref q2, .ref q3, .ref q4, .int 0, .null, .null, .int 0, .null, .int 0, .int 0, .int 0, .long 0, .int 0, .null, .null, .null, .null])), (q1, .inl (E.2.1 0, 67, .inl (fun _ => 0))), (q2, .inl (E.2.1 0, 67, .inl (fun _ => 0))), (q3, .inl (E.2.1 0, 67, .inl (fun _ => 0))), (q4, .inl (E.2.1 0, 67, .inl (fun _ => 0))), (q5, .inl (E.2.1 0, 7, .inl (fun _ => 0)))] H := hP
  have hD : va_D A [(q, .inr (4, [.ref q1, .ref q2, .ref q3, .ref q4, .int 0, .null, .null, .int 0, .null, .int 0, .int 0, .int 0, .long 0, .int 0, .null, .null, .null, .null])), (q1, .inl (E.2.1 0, 67, .inl (fun _ => 0))), (q2, .inl (E.2.1 0, 67, .inl (fun _ => 0))), (q3, .inl (E.2.1 0, 67, .inl (fun _ => 0))), (q4, .inl (E.2.1 0, 67, .inl (fun _ => 0))), (q5, .inl (E.2.1 0, 7, .inl (fun _ => 0)))] := hD
  refine va_putF (D := E.1) (ci := 4) (v := .ref q5) (ty := .array .int) (C := RX4) (T := TX4) (N := 18) hx hb hts inX4 tyX4 tyX4_ok nmX4 hown hE.2.1 hP hD hS 0 rfl rfl 5 (by decide) (hE.w tw_603) (fun _ h9 => h9) rfl hin rfl (by decide +kernel) rfl rfl (Nat.le_of_ble_eq_true rfl) dX4_init_41 (fun H locs hP hD hS => ?_)
  have hP : va_P E.1 vwCl [(q, .inr (4, [.ref q1, .ref q2, .ref q3, .ref q4, .int 0, .ref q5, .null, .int 0, .null, .int 0, .int 0, .int 0, .long 0, .int 0, .null, .null, .null, .null])), (q1, .inl (E.2.1 0, 67, .inl (fun _ => 0))), (q2, .inl (E.2.1 0, 67, .inl (fun _ => 0))), (q3, .inl (E.2.1 0, 67, .inl (fun _ => 0))), (q4, .inl (E.2.1 0, 67, .inl (fun _ => 0))), (q5, .inl (E.2.1 0, 7, .inl (fun _ => 0)))] H := hP
  have hD : va_D A [(q, .inr (4, [.ref q1, .ref q2, .ref q3, .ref q4, .int 0, .ref q5, .null, .int 0, .null, .int 0, .int 0, .int 0, .long 0, .int 0, .null, .null, .null, .null])), (q1, .inl (E.2.1 0, 67, .inl (fun _ => 0))), (q2, .inl (E.2.1 0, 67, .inl (fun _ => 0))), (q3, .inl (E.2.1 0, 67, .inl (fun _ => 0))), (q4, .inl (E.2.1 0, 67, .inl (fun _ => 0))), (q5, .inl (E.2.1 0, 7, .inl (fun _ => 0)))] := hD
  refine lv_aload_n hx hb dX4_init_44 rfl (lv_at hl 0 rfl) ?_
  refine lv_bipush (v := (120 : Int32)) hx hb dX4_init_45 (by decide) ?_
  refine nw_b tw_97 hx hb hE hA hP hD hS (n := (120 : Int32)) (N := 120) (by decide) (by decide) (Nat.le_of_ble_eq_true rfl) (Nat.le_of_ble_eq_true rfl) (Nat.le_of_ble_eq_true rfl) dX4_init_47 (fun q6 H hP hD hS => ?_)
  refine W.widen (k := 6) (n := 395) (Nat.le_of_ble_eq_true rfl) (Nat.le_of_ble_eq_true rfl) ?_
  have hP : va_P E.1 vwCl [(q, .inr (4, [.ref q1, .ref q2, .ref q3, .ref q4, .int 0, .ref q5, .null, .int 0, .null, .int 0, .int 0, .int 0, .long 0, .int 0, .null, .null, .null, .null])), (q1, .inl (E.2.1 0, 67, .inl (fun _ => 0))), (q2, .inl (E.2.1 0, 67, .inl (fun _ => 0))), (q3, .inl (E.2.1 0, 67, .inl (fun _ => 0))), (q4, .inl (E.2.1 0, 67, .inl (fun _ => 0))), (q5, .inl (E.2.1 0, 7, .inl (fun _ => 0))), (q6, .inl (E.2.1 2, 120, .inl (fun _ => 0)))] H := hP
  have hD : va_D A [(q, .inr (4, [.ref q1, .ref q2, .ref q3, .ref q4, .int 0, .ref q5, .null, .int 0, .null, .int 0, .int 0, .int 0, .long 0, .int 0, .null, .null, .null, .null])), (q1, .inl (E.2.1 0, 67, .inl (fun _ => 0))), (q2, .inl (E.2.1 0, 67, .inl (fun _ => 0))), (q3, .inl (E.2.1 0, 67, .inl (fun _ => 0))), (q4, .inl (E.2.1 0, 67, .inl (fun _ => 0))), (q5, .inl (E.2.1 0, 7, .inl (fun _ => 0))), (q6, .inl (E.2.1 2, 120, .inl (fun _ => 0)))] := hD
  refine va_putF (D := E.1) (ci := 4) (v := .ref q6) (ty := .array .byte) (C := RX4) (T := TX4) (N := 18) hx hb hts inX4 tyX4 tyX4_ok nmX4 hown hE.2.1 hP hD hS 0 rfl rfl 6 (by decide) (hE.w tw_604) (fun _ h9 => h9) rfl hin rfl (by decide +kernel) rfl rfl (Nat.le_of_ble_eq_true rfl) dX4_init_49 (fun H locs hP hD hS => ?_)
  have hP : va_P E.1 vwCl [(q, .inr (4, [.ref q1, .ref q2, .ref q3, .ref q4, .int 0, .ref q5, .ref q6, .int 0, .null, .int 0, .int 0, .int 0, .long 0, .int 0, .null, .null, .null, .null])), (q1, .inl (E.2.1 0, 67, .inl (fun _ => 0))), (q2, .inl (E.2.1 0, 67, .inl (fun _ => 0))), (q3, .inl (E.2.1 0, 67, .inl (fun _ => 0))), (q4, .inl (E.2.1 0, 67, .inl (fun _ => 0))), (q5, .inl (E.2.1 0, 7, .inl (fun _ => 0))), (q6, .inl (E.2.1 2, 120, .inl (fun _ => 0)))] H := hP
  have hD : va_D A [(q, .inr (4, [.ref q1, .ref q2, .ref q3, .ref q4, .int 0, .ref q5, .ref q6, .int 0, .null, .int 0, .int 0, .int 0, .long 0, .int 0, .null, .null, .null, .null])), (q1, .inl (E.2.1 0, 67, .inl (fun _ => 0))), (q2, .inl (E.2.1 0, 67, .inl (fun _ => 0))), (q3, .inl (E.2.1 0, 67, .inl (fun _ => 0))), (q4, .inl (E.2.1 0, 67, .inl (fun _ => 0))), (q5, .inl (E.2.1 0, 7, .inl (fun _ => 0))), (q6, .inl (E.2.1 2, 120, .inl (fun _ => 0)))] := hD
  refine lv_aload_n hx hb dX4_init_52 rfl (lv_at hl 0 rfl) ?_
  refine lv_bipush (v := (8 : Int32)) hx hb dX4_init_53 (by decide) ?_
  refine nw_i tw_70 hx hb hE hA hP hD hS (n := (8 : Int32)) (N := 8) (by decide) (by decide) (Nat.le_of_ble_eq_true rfl) (Nat.le_of_ble_eq_true rfl) (Nat.le_of_ble_eq_true rfl) dX4_init_55 (fun q7 H hP hD hS => ?_)
  refine W.widen (k := 7) (n := 403) (Nat.le_of_ble_eq_true rfl) (Nat.le_of_ble_eq_true rfl) ?_
  have hP : va_P E.1 vwCl [(q, .inr (4, [.ref q1, .ref q2, .ref q3, .ref q4, .int 0, .ref q5, .ref q6, .int 0, .null, .int 0, .int 0, .int 0, .long 0, .int 0, .null, .null, .null, .null])), (q1, .inl (E.2.1 0, 67, .inl (fun _ => 0))), (q2, .inl (E.2.1 0, 67, .inl (fun _ => 0))), (q3, .inl (E.2.1 0, 67, .inl (fun _ => 0))), (q4, .inl (E.2.1 0, 67, .inl (fun _ => 0))), (q5, .inl (E.2.1 0, 7, .inl (fun _ => 0))), (q6, .inl (E.2.1 2, 120, .inl (fun _ => 0))), (q7, .inl (E.2.1 0, 8, .inl (fun _ => 0)))] H := hP
  have hD : va_D A [(q, .inr (4, [.ref q1, .ref q2, .ref q3, .ref q4, .int 0, .ref q5, .ref q6, .int 0, .null, .int 0, .int 0, .int 0, .long 0, .int 0, .null, .null, .null, .null])), (q1, .inl (E.2.1 0, 67, .inl (fun _ => 0))), (q2, .inl (E.2.1 0, 67, .inl (fun _ => 0))), (q3, .inl (E.2.1 0, 67, .inl (fun _ => 0))), (q4, .inl (E.2.1 0, 67, .inl (fun _ => 0))), (q5, .inl (E.2.1 0, 7, .inl (fun _ => 0))), (q6, .inl (E.2.1 2, 120, .inl (fun _ => 0))), (q7, .inl (E.2.1 0, 8, .inl (fun _ => 0)))] := hD
  refine va_putF (D := E.1) (ci := 4) (v := .ref q7) (ty := .array .int) (C := RX4) (T := TX4) (N := 18) hx hb hts inX4 tyX4 tyX4_ok nmX4 hown hE.2.1 hP hD hS 0 rfl rfl 8 (by decide) (hE.w tw_606) (fun _ h9 => h9) rfl hin rfl (by decide +kernel) rfl rfl (Nat.le_of_ble_eq_true rfl) dX4_init_57 (fun H locs hP hD hS => ?_)
  have hP : va_P E.1 vwCl [(q, .inr (4, [.ref q1, .ref q2, .ref q3, .ref q4, .int 0, .ref q5, .ref q6, .int 0, .ref q7, .int 0, .int 0, .int 0, .long 0, .int 0, .null, .null, .null, .null])), (q1, .inl (E.2.1 0, 67, .inl (fun _ => 0))), (q2, .inl (E.2.1 0, 67, .inl (fun _ => 0))), (q3, .inl (E.2.1 0, 67, .inl (fun _ => 0))), (q4, .inl (E.2.1 0, 67, .inl (fun _ => 0))), (q5, .inl (E.2.1 0, 7, .inl (fun _ => 0))), (q6, .inl (E.2.1 2, 120, .inl (fun _ => 0))), (q7, .inl (E.2.1 0, 8, .inl (fun _ => 0)))] H := hP
  have hD : va_D A [(q, .inr (4, [.ref q1, .ref q2, .ref q3, .ref q4, .int 0, .ref q5, .ref q6, .int 0, .ref q7, .int 0, .int 0, .int 0, .long 0, .int 0, .null, .null, .null, .null])), (q1, .inl (E.2.1 0, 67, .inl (fun _ => 0))), (q2, .inl (E.2.1 0, 67, .inl (fun _ => 0))), (q3, .inl (E.2.1 0, 67, .inl (fun _ => 0))), (q4, .inl (E.2.1 0, 67, .inl (fun _ => 0))), (q5, .inl (E.2.1 0, 7, .inl (fun _ => 0))), (q6, .inl (E.2.1 2, 120, .inl (fun _ => 0))), (q7, .inl (E.2.1 0, 8, .inl (fun _ => 0)))] := hD
  refine lv_aload_n hx hb dX4_init_60 rfl (lv_at hl 0 rfl) ?_
  refine lv_iconst (v := (4 : Int32)) hx hb dX4_init_61 (by decide) ?_
  refine nw_i tw_70 hx hb hE hA hP hD hS (n := (4 : Int32)) (N := 4) (by decide) (by decide) (Nat.le_of_ble_eq_true rfl) (Nat.le_of_ble_eq_true rfl) (Nat.le_of_ble_eq_true rfl) dX4_init_62 (fun q8 H hP hD hS => ?_)
  refine W.widen (k := 8) (n := 407) (Nat.le_of_ble_eq_true rfl) (Nat.le_of_ble_eq_true rfl) ?_
  have hP : va_P E.1 vwCl [(q, .inr (4, [.ref q1, .ref q2, .ref q3, .ref q4, .int 0, .ref q5, .ref q6, .int 0, .ref q7, .int 0, .int 0, .int 0, .long 0, .int 0, .null, .null, .null, .null])), (q1, .inl (E.2.1 0, 67, .inl (fun _ => 0))), (q2, .inl (E.2.1 0, 67, .inl (fun _ => 0))), (q3, .inl (E.2.1 0, 67, .inl (fun _ => 0))), (q4, .inl (E.2.1 0, 67, .inl (fun _ => 0))), (q5, .inl (E.2.1 0, 7, .inl (fun _ => 0))), (q6, .inl (E.2.1 2, 120, .inl (fun _ => 0))), (q7, .inl (E.2.1 0, 8, .inl (fun _ => 0))), (q8, .inl (E.2.1 0, 4, .inl (fun _ => 0)))] H := hP
  have hD : va_D A [(q, .inr (4, [.ref q1, .ref q2, .ref q3, .ref q4, .int 0, .ref q5, .ref q6, .int 0, .ref q7, .int 0, .int 0, .int 0, .long 0, .int 0, .null, .null, .null, .null])), (q1, .inl (E.2.1 0, 67, .inl (fun _ => 0))), (q2, .inl (E.2.1 0, 67, .inl (fun _ => 0))), (q3, .inl (E.2.1 0, 67, .inl (fun _ => 0))), (q4, .inl (E.2.1 0, 67, .inl (fun _ => 0))), (q5, .inl (E.2.1 0, 7, .inl (fun _ => 0))), (q6, .inl (E.2.1 2, 120, .inl (fun _ => 0))), (q7, .inl (E.2.1 0, 8, .inl (fun _ => 0))), (q8, .inl (E.2.1 0, 4, .inl (fun _ => 0)))] := hD
  refine va_putF (D := E.1) (ci := 4) (v := .ref q8) (ty := .array .int) (C := RX4) (T := TX4) (N := 18) hx hb hts inX4 tyX4 tyX4_ok nmX4 hown hE.2.1 hP hD hS 0 rfl rfl 14 (by decide) (hE.w tw_612) (fun _ h9 => h9) rfl hin rfl (by decide +kernel) rfl rfl (Nat.le_of_ble_eq_true rfl) dX4_init_64 (fun H locs hP hD hS => ?_)
  have hP : va_P E.1 vwCl [(q, .inr (4, [.ref q1, .ref q2, .ref q3, .ref q4, .int 0, .ref q5, .ref q6, .int 0, .ref q7, .int 0, .int 0, .int 0, .long 0, .int 0, .ref q8, .null, .null, .null])), (q1, .inl (E.2.1 0, 67, .inl (fun _ => 0))), (q2, .inl (E.2.1 0, 67, .inl (fun _ => 0))), (q3, .inl (E.2.1 0, 67, .inl (fun _ => 0))), (q4, .inl (E.2.1 0, 67, .inl (fun _ => 0))), (q5, .inl (E.2.1 0, 7, .inl (fun _ => 0))), (q6, .inl (E.2.1 2, 120, .inl (fun _ => 0))), (q7, .inl (E.2.1 0, 8, .inl (fun _ => 0))), (q8, .inl (E.2.1 0, 4, .inl (fun _ => 0)))] H := hP
  have hD : va_D A [(q, .inr (4, [.ref q1, .ref q2, .ref q3, .ref q4, .int 0, .ref q5, .ref q6, .int 0, .ref q7, .int 0, .int 0, .int 0, .long 0, .int 0, .ref q8, .null, .null, .null])), (q1, .inl (E.2.1 0, 67, .inl (fun _ => 0))), (q2, .inl (E.2.1 0, 67, .inl (fun _ => 0))), (q3, .inl (E.2.1 0, 67, .inl (fun _ => 0))), (q4, .inl (E.2.1 0, 67, .inl (fun _ => 0))), (q5, .inl (E.2.1 0, 7, .inl (fun _ => 0))), (q6, .inl (E.2.1 2, 120, .inl (fun _ => 0))), (q7, .inl (E.2.1 0, 8, .inl (fun _ => 0))), (q8, .inl (E.2.1 0, 4, .inl (fun _ => 0)))] := hD
  refine lv_aload_n hx hb dX4_init_67 rfl (lv_at hl 0 rfl) ?_
  refine lv_iconst (v := (4 : Int32)) hx hb dX4_init_68 (by decide) ?_
  refine nw_i tw_70 hx hb hE hA hP hD hS (n := (4 : Int32)) (N := 4) (by decide) (by decide) (Nat.le_of_ble_eq_true rfl) (Nat.le_of_ble_eq_true rfl) (Nat.le_of_ble_eq_true rfl) dX4_init_69 (fun q9 H hP hD hS => ?_)
  refine W.widen (k := 9) (n := 411) (Nat.le_of_ble_eq_true rfl) (Nat.le_of_ble_eq_true rfl) ?_
  have hP : va_P E.1 vwCl [(q, .inr (4, [.ref q1, .ref q2, .ref q3, .ref q4, .int 0, .ref q5, .ref q6, .int 0, .ref q7, .int 0, .int 0, .int 0, .long 0, .int 0, .ref q8, .null, .null, .null])), (q1, .inl (E.2.1 0, 67, .inl (fun _ => 0))), (q2, .inl (E.2.1 0, 67, .inl (fun _ => 0))), (q3, .inl (E.2.1 0, 67, .inl (fun _ => 0))), (q4, .inl (E.2.1 0, 67, .inl (fun _ => 0))), (q5, .inl (E.2.1 0, 7, .inl (fun _ => 0))), (q6, .inl (E.2.1 2, 120, .inl (fun _ => 0))), (q7, .inl (E.2.1 0, 8, .inl (fun _ => 0))), (q8, .inl (E.2.1 0, 4, .inl (fun _ => 0))), (q9, .inl (E.2.1 0, 4, .inl (fun _ => 0)))] H := hP
  have hD : va_D A [(q, .inr (4, [.ref q1, .ref q2, .ref q3, .ref q4, .int 0, .ref q5, .ref q6, .int 0, .ref q7, .int 0, .int 0, .int 0, .long 0, .int 0, .ref q8, .null, .null, .null])), (q1, .inl (E.2.1 0, 67, .inl (fun _ => 0))), (q2, .inl (E.2.1 0, 67, .inl (fun _ => 0))), (q3, .inl (E.2.1 0, 67, .inl (fun _ => 0))), (q4, .inl (E.2.1 0, 67, .inl (fun _ => 0))), (q5, .inl (E.2.1 0, 7, .inl (fun _ => 0))), (q6, .inl (E.2.1 2, 120, .inl (fun _ => 0))), (q7, .inl (E.2.1 0, 8, .inl (fun _ => 0))), (q8, .inl (E.2.1 0, 4, .inl (fun _ => 0))), (q9, .inl (E.2.1 0, 4, .inl (fun _ => 0)))] := hD
  refine va_putF (D := E.1) (ci := 4) (v := .ref q9) (ty := .array .int) (C := RX4) (T := TX4) (N := 18) hx hb hts inX4 tyX4 tyX4_ok nmX4 hown hE.2.1 hP hD hS 0 rfl rfl 15 (by decide) (hE.w tw_613) (fun _ h9 => h9) rfl hin rfl (by decide +kernel) rfl rfl (Nat.le_of_ble_eq_true rfl) dX4_init_71 (fun H locs hP hD hS => ?_)
  have hP : va_P E.1 vwCl [(q, .inr (4, [.ref q1, .ref q2, .ref q3, .ref q4, .int 0, .ref q5, .ref q6, .int 0, .ref q7, .int 0, .int 0, .int 0, .long 0, .int 0, .ref q8, .ref q9, .null, .null])), (q1, .inl (E.2.1 0, 67, .inl (fun _ => 0))), (q2, .inl (E.2.1 0, 67, .inl (fun _ => 0))), (q3, .inl (E.2.1 0, 67, .inl (fun _ => 0))), (q4, .inl (E.2.1 0, 67, .inl (fun _ => 0))), (q5, .inl (E.2.1 0, 7, .inl (fun _ => 0))), (q6, .inl (E.2.1 2, 120, .inl (fun _ => 0))), (q7, .inl (E.2.1 0, 8, .inl (fun _ => 0))), (q8, .inl (E.2.1 0, 4, .inl (fun _ => 0))), (q9, .inl (E.2.1 0, 4, .inl (fun _ => 0)))] H := hP
  have hD : va_D A [(q, .inr (4, [.ref q1, .ref q2, .ref q3, .ref q4, .int 0, .ref q5, .ref q6, .int 0, .ref q7, .int 0, .int 0, .int 0, .long 0, .int 0, .ref q8, .ref q9, .null, .null])), (q1, .inl (E.2.1 0, 67, .inl (fun _ => 0))), (q2, .inl (E.2.1 0, 67, .inl (fun _ => 0))), (q3, .inl (E.2.1 0, 67, .inl (fun _ => 0))), (q4, .inl (E.2.1 0, 67, .inl (fun _ => 0))), (q5, .inl (E.2.1 0, 7, .inl (fun _ => 0))), (q6, .inl (E.2.1 2, 120, .inl (fun _ => 0))), (q7, .inl (E.2.1 0, 8, .inl (fun _ => 0))), (q8, .inl (E.2.1 0, 4, .inl (fun _ => 0))), (q9, .inl (E.2.1 0, 4, .inl (fun _ => 0)))] := hD
  refine lv_aload_n hx hb dX4_init_74 rfl (lv_at hl 0 rfl) ?_
  refine lv_sipush (v := (160 : Int32)) hx hb dX4_init_75 (by decide) ?_
  refine nw_l tw_118 hx hb hE hA hP hD hS (n := (160 : Int32)) (N := 160) (by decide) (by decide) (Nat.le_of_ble_eq_true rfl) (Nat.le_of_ble_eq_true rfl) (Nat.le_of_ble_eq_true rfl) dX4_init_78 (fun q10 H hP hD hS => ?_)
  refine W.widen (k := 10) (n := 571) (Nat.le_of_ble_eq_true rfl) (Nat.le_of_ble_eq_true rfl) ?_
  have hP : va_P E.1 vwCl [(q, .inr (4, [.ref q1, .ref q2, .ref q3, .ref q4, .int 0, .ref q5, .ref q6, .int 0, .ref q7, .int 0, .int 0, .int 0, .long 0, .int 0, .ref q8, .ref q9, .null, .null])), (q1, .inl (E.2.1 0, 67, .inl (fun _ => 0))), (q2, .inl (E.2.1 0, 67, .inl (fun _ => 0))), (q3, .inl (E.2.1 0, 67, .inl (fun _ => 0))), (q4, .inl (E.2.1 0, 67, .inl (fun _ => 0))), (q5, .inl (E.2.1 0, 7, .inl (fun _ => 0))), (q6, .inl (E.2.1 2, 120, .inl (fun _ => 0))), (q7, .inl (E.2.1 0, 8, .inl (fun _ => 0))), (q8, .inl (E.2.1 0, 4, .inl (fun _ => 0))), (q9, .inl (E.2.1 0, 4, .inl (fun _ => 0))), (q10, .inl (E.2.1 1, 160, .inr (.inl (fun _ => 0))))] H := hP
  have hD : va_D A [(q, .inr (4, [.ref q1, .ref q2, .ref q3, .ref q4, .int 0, .ref q5, .ref q6, .int 0, .ref q7, .int 0, .int 0, .int 0, .long 0, .int 0, .ref q8, .ref q9, .null, .null])), (q1, .inl (E.2.1 0, 67, .inl (fun _ => 0))), (q2, .inl (E.2.1 0, 67, .inl (fun _ => 0))), (q3, .inl (E.2.1 0, 67, .inl (fun _ => 0))), (q4, .inl (E.2.1 0, 67, .inl (fun _ => 0))), (q5, .inl (E.2.1 0, 7, .inl (fun _ => 0))), (q6, .inl (E.2.1 2, 120, .inl (fun _ => 0))), (q7, .inl (E.2.1 0, 8, .inl (fun _ => 0))), (q8, .inl (E.2.1 0, 4, .inl (fun _ => 0))), (q9, .inl (E.2.1 0, 4, .inl (fun _ => 0))), (q10, .inl (E.2.1 1, 160, .inr (.inl (fun _ => 0))))] := hD
  refine va_putF (D := E.1) (ci := 4) (v := .ref q10) (ty := .array .long) (C := RX4) (T := TX4) (N := 18) hx hb hts inX4 tyX4 tyX4_ok nmX4 hown hE.2.1 hP hD hS 0 rfl rfl 16 (by decide) (hE.w tw_614) (fun _ h9 => h9) rfl hin rfl (by decide +kernel) rfl rfl (Nat.le_of_ble_eq_true rfl) dX4_init_80 (fun H locs hP hD hS => ?_)
  have hP : va_P E.1 vwCl [(q, .inr (4, [.ref q1, .ref q2, .ref q3, .ref q4, .int 0, .ref q5, .ref q6, .int 0, .ref q7, .int 0, .int 0, .int 0, .long 0, .int 0, .ref q8, .ref q9, .ref q10, .null])), (q1, .inl (E.2.1 0, 67, .inl (fun _ => 0))), (q2, .inl (E.2.1 0, 67, .inl (fun _ => 0))), (q3, .inl (E.2.1 0, 67, .inl (fun _ => 0))), (q4, .inl (E.2.1 0, 67, .inl (fun _ => 0))), (q5, .inl (E.2.1 0, 7, .inl (fun _ => 0))), (q6, .inl (E.2.1 2, 120, .inl (fun _ => 0))), (q7, .inl (E.2.1 0, 8, .inl (fun _ => 0))), (q8, .inl (E.2.1 0, 4, .inl (fun _ => 0))), (q9, .inl (E.2.1 0, 4, .inl (fun _ => 0))), (q10, .inl (E.2.1 1, 160, .inr (.inl (fun _ => 0))))] H := hP
  have hD : va_D A [(q, .inr (4, [.ref q1, .ref q2, .ref q3, .ref q4, .int 0, .ref q5, .ref q6, .int 0, .ref q7, .int 0, .int 0, .int 0, .long 0, .int 0, .ref q8, .ref q9, .ref q10, .null])), (q1, .inl (E.2.1 0, 67, .inl (fun _ => 0))), (q2, .inl (E.2.1 0, 67, .inl (fun _ => 0))), (q3, .inl (E.2.1 0, 67, .inl (fun _ => 0))), (q4, .inl (E.2.1 0, 67, .inl (fun _ => 0))), (q5, .inl (E.2.1 0, 7, .inl (fun _ => 0))), (q6, .inl (E.2.1 2, 120, .inl (fun _ => 0))), (q7, .inl (E.2.1 0, 8, .inl (fun _ => 0))), (q8, .inl (E.2.1 0, 4, .inl (fun _ => 0))), (q9, .inl (E.2.1 0, 4, .inl (fun _ => 0))), (q10, .inl (E.2.1 1, 160, .inr (.inl (fun _ => 0))))] := hD
  refine lv_aload_n hx hb dX4_init_83 rfl (lv_at hl 0 rfl) ?_
  refine lv_bipush (v := (40 : Int32)) hx hb dX4_init_84 (by decide) ?_
  refine nw_l tw_118 hx hb hE hA hP hD hS (n := (40 : Int32)) (N := 40) (by decide) (by decide) (Nat.le_of_ble_eq_true rfl) (Nat.le_of_ble_eq_true rfl) (Nat.le_of_ble_eq_true rfl) dX4_init_86 (fun q11 H hP hD hS => ?_)
  refine W.widen (k := 11) (n := 611) (Nat.le_of_ble_eq_true rfl) (Nat.le_of_ble_eq_true rfl) ?_
  have hP : va_P E.1 vwCl [(q, .inr (4, [.ref q1, .ref q2, .ref q3, .ref q4, .int 0, .ref q5, .ref q6, .int 0, .ref q7, .int 0, .int 0, .int 0, .long 0, .int 0, .ref q8, .ref q9, .ref q10, .null])), (q1, .inl (E.2.1 0, 67, .inl (fun _ => 0))), (q2, .inl (E.2.1 0, 67, .inl (fun _ => 0))), (q3, .inl (E.2.1 0, 67, .inl (fun _ => 0))), (q4, .inl (E.2.1 0, 67, .inl (fun _ => 0))), (q5, .inl (E.2.1 0, 7, .inl (fun _ => 0))), (q6, .inl (E.2.1 2, 120, .inl (fun _ => 0))), (q7, .inl (E.2.1 0, 8, .inl (fun _ => 0))), (q8, .inl (E.2.1 0, 4, .inl (fun _ => 0))), (q9, .inl (E.2.1 0, 4, .inl (fun _ => 0))), (q10, .inl (E.2.1 1, 160, .inr (.inl (fun _ => 0)))), (q11, .inl (E.2.1 1, 40, .inr (.inl (fun _ => 0))))] H := hP
  have hD : va_D A [(q, .inr (4, [.ref q1, .ref q2, .ref q3, .ref q4, .int 0, .ref q5, .ref q6, .int 0, .ref q7, .int 0, .int 0, .int 0, .long 0, .int 0, .ref q8, .ref q9, .ref q10, .null])), (q1, .inl (E.2.1 0, 67, .inl (fun _ => 0))), (q2, .inl (E.2.1 0, 67, .inl (fun _ => 0))), (q3, .inl (E.2.1 0, 67, .inl (fun _ => 0))), (q4, .inl (E.2.1 0, 67, .inl (fun _ => 0))), (q5, .inl (E.2.1 0, 7, .inl (fun _ => 0))), (q6, .inl (E.2.1 2, 120, .inl (fun _ => 0))), (q7, .inl (E.2.1 0, 8, .inl (fun _ => 0))), (q8, .inl (E.2.1 0, 4, .inl (fun _ => 0))), (q9, .inl (E.2.1 0, 4, .inl (fun _ => 0))), (q10, .inl (E.2.1 1, 160, .inr (.inl (fun _ => 0)))), (q11, .inl (E.2.1 1, 40, .inr (.inl (fun _ => 0))))] := hD
  refine va_putF (D := E.1) (ci := 4) (v := .ref q11) (ty := .array .long) (C := RX4) (T := TX4) (N := 18) hx hb hts inX4 tyX4 tyX4_ok nmX4 hown hE.2.1 hP hD hS 0 rfl rfl 17 (by decide) (hE.w tw_615) (fun _ h9 => h9) rfl hin rfl (by decide +kernel) rfl rfl (Nat.le_of_ble_eq_true rfl) dX4_init_88 (fun H locs hP hD hS => ?_)
  have hP : va_P E.1 vwCl [(q, .inr (4, [.ref q1, .ref q2, .ref q3, .ref q4, .int 0, .ref q5, .ref q6, .int 0, .ref q7, .int 0, .int 0, .int 0, .long 0, .int 0, .ref q8, .ref q9, .ref q10, .ref q11])), (q1, .inl (E.2.1 0, 67, .inl (fun _ => 0))), (q2, .inl (E.2.1 0, 67, .inl (fun _ => 0))), (q3, .inl (E.2.1 0, 67, .inl (fun _ => 0))), (q4, .inl (E.2.1 0, 67, .inl (fun _ => 0))), (q5, .inl (E.2.1 0, 7, .inl (fun _ => 0))), (q6, .inl (E.2.1 2, 120, .inl (fun _ => 0))), (q7, .inl (E.2.1 0, 8, .inl (fun _ => 0))), (q8, .inl (E.2.1 0, 4, .inl (fun _ => 0))), (q9, .inl (E.2.1 0, 4, .inl (fun _ => 0))), (q10, .inl (E.2.1 1, 160, .inr (.inl (fun _ => 0)))), (q11, .inl (E.2.1 1, 40, .inr (.inl (fun _ => 0))))] H := hP
  have hD : va_D A [(q, .inr (4, [.ref q1, .ref q2, .ref q3, .ref q4, .int 0, .ref q5, .ref q6, .int 0, .ref q7, .int 0, .int 0, .int 0, .long 0, .int 0, .ref q8, .ref q9, .ref q10, .ref q11])), (q1, .inl (E.2.1 0, 67, .inl (fun _ => 0))), (q2, .inl (E.2.1 0, 67, .inl (fun _ => 0))), (q3, .inl (E.2.1 0, 67, .inl (fun _ => 0))), (q4, .inl (E.2.1 0, 67, .inl (fun _ => 0))), (q5, .inl (E.2.1 0, 7, .inl (fun _ => 0))), (q6, .inl (E.2.1 2, 120, .inl (fun _ => 0))), (q7, .inl (E.2.1 0, 8, .inl (fun _ => 0))), (q8, .inl (E.2.1 0, 4, .inl (fun _ => 0))), (q9, .inl (E.2.1 0, 4, .inl (fun _ => 0))), (q10, .inl (E.2.1 1, 160, .inr (.inl (fun _ => 0)))), (q11, .inl (E.2.1 1, 40, .inr (.inl (fun _ => 0))))] := hD
  have hP : va_P E.1 vwCl (wX4 E (fun k => [q, q1, q2, q3, q4, 0, q5, q6, 0, q7, 0, 0, 0, 0, 0, q8, q9, q10, q11].getD k 0) zX4) H := hP
  have hD : va_D A (wX4 E (fun k => [q, q1, q2, q3, q4, 0, q5, q6, 0, q7, 0, 0, 0, 0, 0, q8, q9, q10, q11].getD k 0) zX4) := hD
  unfold f_X4_init at hf
  generalize zX4 = m0 at hP hD hf
  refine lv_iconst (v := (0 : Int32)) hx hb dX4_init_91 (by decide) ?_
  refine lv_istore_n (lv' := [(1, .int (0 : Int32)), (0, .ref q)]) hx hb dX4_init_92 rfl hl (by decide) rfl (fun ls hl => ?_)
  have L_1 : ∀ (k_1 : Nat) (v1_1 : Int32) (m0_1 : MS), lp_X4_init_93  k_1 v1_1 m0_1 = some h' → ∀ (H : Heap) (locs : List Loc) (ls : Array Slot), va_P E.1 vwCl (wX4 E (fun k => [q, q1, q2, q3, q4, 0, q5, q6, 0, q7, 0, 0, 0, 0, 0, q8, q9, q10, q11].getD k 0) m0_1) H → va_D A (wX4 E (fun k => [q, q1, q2, q3, q4, 0, q5, q6, 0, q7, 0, 0, 0, 0, 0, q8, q9, q10, q11].getD k 0) m0_1) → va_S A s.heap H locs → lv_has ls 2 [(1, .int v1_1), (0, .ref q)] → W p l e ({ frames := 1, cells := 11, slots := 611, locals := 12 }) s m [Value.ref q].toArray below meth c H locs 11 611 (MQ below (Qcn E A (fun w1 => ∃ a : Nat → Nat, a 0 = q ∧ w1 = wX4 E a h')) [Value.ref q].toArray s 11 611 A) (F0 m 93 ls []) := by
    intro k_1
    induction k_1 with
    | zero =>
      intro v1_1 m0_1 hf
      rw [lp_X4_init_93] at hf
      cases hf
    | succ k_1 ih_1 =>
      intro v1_1 m0_1 hf H locs ls hP hD hS hl
      rw [lp_X4_init_93] at hf
      refine lv_iload_n hx hb dX4_init_93 rfl (lv_at hl 0 rfl) ?_
      refine lv_bipush (v := (16 : Int32)) hx hb dX4_init_94 (by decide) ?_
      refine lv_icmp_ge (tgt := 126) hx hb dX4_init_96 (by decide) (fun c2 => ?_) (fun c2 => ?_)
      · have hf := ip c2 hf
        obtain rfl := so1 hf
        exact rt_n ⟨(fun k => [q, q1, q2, q3, q4, 0, q5, q6, 0, q7, 0, 0, 0, 0, 0, q8, q9, q10, q11].getD k 0), rfl, rfl⟩ hx hb hr hlocks hP hD hS dX4_init_126
      · have hf := im c2 hf
        refine lv_aload_n hx hb dX4_init_99 rfl (lv_at hl 1 rfl) ?_
        refine va_get (D := E.1) (ci := 4) (v := .ref q1) (C := RX4) (T := TX4) (N := 18) hx hb hts inX4 hown hE.2.1 hP 0 rfl rfl 0 (by decide) (hE.w tw_598) (fun _ h9 => h9) rfl dX4_init_100 ?_
        refine lv_iconst (v := (3 : Int32)) hx hb dX4_init_103 (by decide) ?_
        refine lv_iload_n hx hb dX4_init_104 rfl (lv_at hl 0 rfl) ?_
        refine lv_iadd hx hb dX4_init_105 ?_
        refine lv_iload_n hx hb dX4_init_106 rfl (lv_at hl 0 rfl) ?_
        refine lv_iconst (v := (5 : Int32)) hx hb dX4_init_107 (by decide) ?_
        refine lv_irem hx hb dX4_init_108 (by decide) ?_
        obtain ⟨hg3, hf⟩ := gd_some hf
        obtain ⟨m_4, em_4, hf⟩ := jn1_some hf
        refine va_iast hx hb hE.2.1 hP hD hS 1 0 rfl rfl hg3 dX4_init_109 (fun H locs hP hD hS => ?_)
        have hP : va_P E.1 vwCl (wX4 E (fun k => [q, q1, q2, q3, q4, 0, q5, q6, 0, q7, 0, 0, 0, 0, 0, q8, q9, q10, q11].getD k 0) m_4) H := wst (by rw [em_4]; exact rfl) hP
        have hD : va_D A (wX4 E (fun k => [q, q1, q2, q3, q4, 0, q5, q6, 0, q7, 0, 0, 0, 0, 0, q8, q9, q10, q11].getD k 0) m_4) := wsd (by rw [em_4]; exact rfl) hD
        refine lv_aload_n hx hb dX4_init_110 rfl (lv_at hl 1 rfl) ?_
        refine va_get (D := E.1) (ci := 4) (v := .ref q1) (C := RX4) (T := TX4) (N := 18) hx hb hts inX4 hown hE.2.1 hP 0 rfl rfl 0 (by decide) (hE.w tw_598) (fun _ h9 => h9) rfl dX4_init_111 ?_
        refine lv_bipush (v := (19 : Int32)) hx hb dX4_init_114 (by decide) ?_
        refine lv_iload_n hx hb dX4_init_116 rfl (lv_at hl 0 rfl) ?_
        refine lv_iadd hx hb dX4_init_117 ?_
        refine lv_iconst (v := (5 : Int32)) hx hb dX4_init_118 (by decide) ?_
        obtain ⟨hg5, hf⟩ := gd_some hf
        obtain ⟨m_6, em_6, hf⟩ := jn1_some hf
        refine va_iast hx hb hE.2.1 hP hD hS 1 0 rfl rfl hg5 dX4_init_119 (fun H locs hP hD hS => ?_)
        have hP : va_P E.1 vwCl (wX4 E (fun k => [q, q1, q2, q3, q4, 0, q5, q6, 0, q7, 0, 0, 0, 0, 0, q8, q9, q10, q11].getD k 0) m_6) H := wst (by rw [em_6]; exact rfl) hP
        have hD : va_D A (wX4 E (fun k => [q, q1, q2, q3, q4, 0, q5, q6, 0, q7, 0, 0, 0, 0, 0, q8, q9, q10, q11].getD k 0) m_6) := wsd (by rw [em_6]; exact rfl) hD
        refine lv_iinc (v := (v1_1 + (1 : Int32))) (lv' := [(1, .int (v1_1 + (1 : Int32))), (0, .ref q)]) hx hb dX4_init_120 hl (k := 0) rfl rfl (by decide) rfl (fun ls hl => ?_)
        refine lv_goto (tgt := 93) hx hb dX4_init_123 (by decide) ?_
        exact ih_1 _ _ hf _ _ _ hP hD hS (lv_sub hl [0, 1] rfl)
  exact L_1 _ _ _ hf _ _ _ hP hD hS (lv_sub hl [0, 1] rfl)
