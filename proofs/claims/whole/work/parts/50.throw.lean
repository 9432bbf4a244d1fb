/-! A METHOD THAT THROWS. -/
def tNo : String := "java/util/NoSuchElementException"
def tUp : List String := ["java/lang/RuntimeException", "java/lang/Exception"]
/-- the constructor of this JDK's NoSuchElementException calls its superclass's through the thirteenth entry of its pool -/
def tBy : ByteArray := ⟨#[0x2a, 0x2b, 0xb7, 0x00, 0x0d, 0xb1]⟩
def tCh : List Cond := Bundle.passSAtoms tNo "java/lang/RuntimeException" 13 tBy ++ Bundle.chainSAtoms "java/lang/RuntimeException" ["java/lang/Exception"]
def tEx : List Cond := (Bundle.ownAtoms "HarvestSteps" 153 tNo tUp).filter fun w => decide (w ∉ Bundle.chainSAtoms tNo tUp)
/-- the words of 'throw new NoSuchElementException(text)' of the class -/
def tAll : List Cond := tEx ++ tCh
/-- ... that the tables alone decide -/
def tW : List Cond := tAll.filter Cond.onTables
theorem tAll_T : ∀ w ∈ Bundle.throwableAtoms, w ∈ tAll := by decide +kernel
theorem tAll_S : ∀ w ∈ Bundle.throwableSAtoms, w ∈ tAll := by decide +kernel
theorem tAll_face : ∀ w ∈ tAll, w.keepsFace = true := by decide +kernel
/-- a static field that holds a reference, in a cell older than z -/
def fr_St (z : Nat) (K n d : String) (U : State) (H : Heap) : Prop := ∃ (ci : ClassId) (k : Class) (i : Nat) (f : Field) (a : Nat) (cell : Cell) (v : Value), (U.vm.findClass K = some ci ∧ U.fieldFound? K n d = some (ci, k, i, f) ∧ f.isStatic = true ∧ k.statics = some a ∧ k.staticTypes[f.slot]? = some f.type) ∧ a < z ∧ H[a]? = some cell ∧ cell.vm.isStatics = true ∧ cell.cls = ci ∧ f.slot < cell.slots.size ∧ cell.slots[f.slot]? = some v ∧ v.isRef = true
theorem fr_St.moved {z : Nat} {K n d : String} {u U : State} {H : Heap} (hvm : u.vm.Alike U.vm) (h : fr_St z K n d u H) : fr_St z K n d U H := by
  obtain ⟨ci, k, i, f, a, cell, v, ⟨h1, h2, h3, h4, h5⟩, h6⟩ := h
  obtain ⟨k', hi', he⟩ := State.fieldFound?_setVm hvm h2
  exact ⟨ci, k', i, f, a, cell, v, ⟨by rw [hvm.findClass]; exact h1, hi', h3, by rw [he]; exact h4, by rw [he]; exact h5⟩, h6⟩
theorem fr_St.kept {z : Nat} {K n d : String} {U : State} {H H1 : Heap} (h : fr_St z K n d U H) (hq : ∀ a : Nat, a < H.size → ¬ fr_A z a → H1[a]? = H[a]?) : fr_St z K n d U H1 := by
  obtain ⟨ci, k, i, f, a, cell, v, h0, h1, h2, h3⟩ := h
  exact ⟨ci, k, i, f, a, cell, v, h0, h1, (hq a (Array.getElem?_eq_some_iff.mp h2).1 (fun y => absurd (show z ≤ a from y) (by omega))).trans h2, h3⟩
theorem fr_St.lays {z : Nat} {K n d : String} {U : State} {A : Array Value} (h : fr_St z K n d U U.heap) : (Cond.laysStatic K n d).before A U = true := by
  obtain ⟨ci, k, i, f, a, cell, v, ⟨h1, h2, h3, h4, h5⟩, -, h6, h7, h8, h9, -⟩ := h
  exact Cond.laysStatic_of (first := U) (o := none) (idx := []) h1 h2 h3 h4 h6 h7 h8 h9 h5
theorem fr_St.isRef {z : Nat} {K n d : String} {U : State} {A : Array Value} (h : fr_St z K n d U U.heap) : (Cond.isRef (.static K n d)).before A U = true := by
  obtain ⟨ci, k, i, f, a, cell, v, ⟨h1, h2, h3, h4, h5⟩, -, h6, h7, h8, h9, h10, h11⟩ := h
  have he : (Term.static K n d).eval A U none [] U = some v := by simp [Term.eval, State.fieldNamed?, h2, h3, h4, h6, h7, h10]
  simp only [Cond.before, Cond.holds, Cond.value, he]
  cases v <;> simp_all [Value.isRef]
theorem fr_St.of {A : Array Value} {s : State} {K n d : String} (hl : (Cond.laysStatic K n d).before A s = true) (hini : (Cond.initialized K).before A s = true) (h : (Cond.isRef (.static K n d)).before A s = true) : fr_St s.heap.size K n d s s.heap := by
  obtain ⟨ci, k, i, f, a, cell, h1, h2, h3, h4, h5, h6, h7, h8, h9⟩ := Cond.laysStatic_spec hl
  have hz := va_Zqof (A := fun _ => False) hl hini h (fun _ _ q => q)
  obtain ⟨v, hv, cf, kf, fi, f', a', cell', g1, -, -, g4, g5, -, g7, -⟩ : ∃ v : Value, v.isRef = true ∧ va_Z K n d v (fun _ => False) s s.heap := by
    rcases hz with hz | ⟨t, hz⟩
    · exact ⟨_, rfl, hz⟩
    · exact ⟨_, rfl, hz⟩
  cases h2.symm.trans g1
  cases h4.symm.trans g4
  cases h5.symm.trans g5
  exact ⟨ci, k, i, f, a, cell, v, ⟨h1, h2, h3, h4, h9⟩, (Array.getElem?_eq_some_iff.mp h5).1, h5, h6, h7, h8, g7, hv⟩
/-- what a throw stands on -/
def fr_T (z : Nat) (sa : Nat → Nat) (U : State) (H : Heap) : Prop := (∀ w ∈ tW, va_Nw w U) ∧ fr_St z Bundle.tN "UNASSIGNED_STACK" Bundle.steD U H ∧ fr_St z Bundle.tN "SUPPRESSED_SENTINEL" Bundle.listD U H ∧ vk_R "HarvestSteps" 151 "no such harvester" (sa 0) U ∧ vk_R "HarvestSteps" 156 "no page was answered" (sa 1) U ∧ vk_R "HarvestSteps" 161 "no such row" (sa 2) U ∧ vk_R "HarvestSteps" 175 "no such what" (sa 3) U
theorem tW_face {w : Cond} (h : w ∈ tW) : w.keepsFace = true ∧ w.onTables = true := ⟨tAll_face w (List.mem_filter.mp h).1, (List.mem_filter.mp h).2⟩
theorem fr_T.kept {z : Nat} {sa : Nat → Nat} {U : State} {H H1 : Heap} (h : fr_T z sa U H) (hq : ∀ a : Nat, a < H.size → ¬ fr_A z a → H1[a]? = H[a]?) : fr_T z sa U H1 := ⟨h.1, h.2.1.kept hq, h.2.2.1.kept hq, h.2.2.2⟩
theorem fr_T.warm {z : Nat} {sa : Nat → Nat} {s U : State} {H : Heap} (hW : s.WarmedH U.vm) (h : fr_T z sa s H) : fr_T z sa U H := by
  obtain ⟨h1, h2, h3, h4, h5, h6, h7⟩ := h
  exact ⟨fun w hw => va_tabs (tW_face hw).2 (rfl : (s.setVm U.vm).vm = U.vm) (Cond.before_shiftedFace (State.Shifted.of_warmed hW) w (tW_face hw).1 (h1 w hw)), h2.moved hW.alike, h3.moved hW.alike, h4.warm hW, h5.warm hW, h6.warm hW, h7.warm hW⟩
theorem fr_T.same {z : Nat} {sa : Nat → Nat} {u U : State} {H : Heap} (hv : u.vm = U.vm) (h : fr_T z sa u H) : fr_T z sa U H := by
  have hA : u.vm.Alike U.vm := by rw [← hv]; exact Vm.Alike.refl u.vm
  obtain ⟨h1, h2, h3, h4, h5, h6, h7⟩ := h
  exact ⟨fun w hw => va_tabs (tW_face hw).2 hv (h1 w hw), h2.moved hA, h3.moved hA, h4.same hv.symm, h5.same hv.symm, h6.same hv.symm, h7.same hv.symm⟩
/-- the words that the heap decides -/
theorem tW_rest : ∀ w ∈ tAll.filter (fun w => !w.onTables), w = .laysStatic Bundle.tN "UNASSIGNED_STACK" Bundle.steD ∨ w = .laysStatic Bundle.tN "SUPPRESSED_SENTINEL" Bundle.listD ∨ w = .isRef (.static Bundle.tN "UNASSIGNED_STACK" Bundle.steD) ∨ w = .isRef (.static Bundle.tN "SUPPRESSED_SENTINEL" Bundle.listD) := by decide +kernel
theorem fr_T.atoms {z : Nat} {sa : Nat → Nat} {U : State} {A : Array Value} (h : fr_T z sa U U.heap) : ∀ w ∈ tAll, w.before A U = true := by
  intro w hw
  cases ho : w.onTables with
  | true => exact va_tabs ho rfl (h.1 w (List.mem_filter.mpr ⟨hw, ho⟩))
  | false =>
    rcases tW_rest w (List.mem_filter.mpr ⟨hw, by rw [ho]; rfl⟩) with rfl | rfl | rfl | rfl
    · exact h.2.1.lays
    · exact h.2.2.1.lays
    · exact h.2.1.isRef
    · exact h.2.2.1.isRef
def fr_GT (sa : Nat → Nat) (D : va_G) (cl : List vw_C) (tys : List (ClassId × FieldType)) (z : Nat) (b : Nat → Nat) (C : fr_C) (U : State) : Prop := fr_G D cl tys z b C U ∧ fr_T z sa U U.heap
theorem fr_blindT {sa : Nat → Nat} {av : List Value} {D : va_G} {cl : List vw_C} {tys : List (ClassId × FieldType)} {z : Nat} {b : Nat → Nat} {C : fr_C} : FrameBlind (va_Pc av (fr_GT sa D cl tys z b C)) :=
  fun a U g mk q => ⟨q.1, ⟨q.2.1.1, va_K.moved (u := U) (U := U.calling g mk a) (Vm.Alike.refl U.vm) q.2.1.2⟩, fr_T.same (u := U) (U := U.calling g mk a) rfl q.2.2⟩
theorem fr_preT {sa : Nat → Nat} {av : List Value} {D : va_G} {cl : List vw_C} {tys : List (ClassId × FieldType)} {z : Nat} {b : Nat → Nat} {C : fr_C} {H : Heap} {s : State} {locs : List Loc} (hE : fr_W D cl z b C H) (hK : va_K D cl tys s) (hX : fr_T z sa s s.heap) (hS : va_S (fr_A z) s.heap H locs) : ∀ U : State, U.heap = H → s.WarmedH U.vm → va_Pc av (fr_GT sa D cl tys z b C) av.toArray U :=
  fun U hU hW => ⟨rfl, ⟨by rw [hU]; exact hE, va_K.moved hW.alike hK⟩, by rw [hU]; exact (hX.kept hS.2.1).warm hW⟩
/-- the contract of a method that throws -/
def fr_MetT (l : Launch) (y : MethodName) (ws : List Cond) (rm : Room) (Pc : Array Value → State → Prop) (Qc : Array Value → State → Outcome → State → Prop) (mc ms : Nat) (free : Addr → Prop) : Prop :=
  MetFree l y (headSpec ws rm) Pc (fun _ _ _ _ _ => True) (fun a st o t => Qc a st o t ∧ ∃ L, FrameEndT st o t L mc ms ∧ ∀ q ∈ L, free q.base)
def fr_MQT (below : List Frame) (Qc : Array Value → State → Outcome → State → Prop) (a : Array Value) (s : State) (mc ms : Nat) (free : Addr → Prop) : State → Prop := fun t =>
  ∃ o, t.status = .running ∧ Ended t below o ∧ Qc a s o t ∧ ∃ L, FrameEndT s o t L mc ms ∧ ∀ q ∈ L, free q.base
theorem fr_MetT.ofW {l : Launch} {y : MethodName} {ws ws' : List Cond} {rm : Room} {Pc : Array Value → State → Prop} {Qc : Array Value → State → Outcome → State → Prop} {mc ms : Nat} {free : Addr → Prop} {cc : ByteArray} {maxL : Nat} {ret : Option FieldType}
    (hy : plainName y.cls = true) (hw : ws = Cond.code y cc maxL ret :: ws')
    (body : ∀ p e s m args below meth c s₁, BodyLoose p l y (headSpec ws rm) cc maxL ret e s m args below meth c s₁ → c.maxLocals = maxL → Pc args s →
      W p l e (headSpec ws rm).room s m args below meth c s.heap [] 0 0 (fr_MQT below Qc args s mc ms free) (entryFrame m args maxL)) : fr_MetT l y ws rm Pc Qc mc ms free := by
  refine MetFree.of_bodyS (code := cc) (maxLocals := maxL) (ret := ret) hy (fun args s m h hn => ?_) (fun p e s m args below meth c s₁ B hml hP _ => ?_)
  · obtain ⟨meth, c, h1, h2, h3, h4, h5, h6, -⟩ := Cond.code_spec hn (atoms_spec (ws := ws) h _ (by rw [hw]; exact List.mem_cons_self))
    exact ⟨meth, c, h1, h2, h3, h4, h5, h6⟩
  · obtain ⟨t, a1, o, b1, b2, b3⟩ := body p e s m args below meth c s₁ B hml hP s₁ (by rw [B.state]; rfl) (Stand.of_body B)
    exact ⟨t, o, a1, b1, b2, b3⟩
theorem fr_same {s U : State} {k n : Nat} (h : s.sameButNew ({ U with vm := s.vm } : State) [] k n) : s.heap.size ≤ U.heap.size ∧ ∀ q : Nat, q < s.heap.size → U.heap[q]? = s.heap[q]? := by
  obtain ⟨-, h2, -, -, -, h6⟩ := h
  refine ⟨h2, fun q hq => ?_⟩
  obtain ⟨c9, e1, e2, -, e4⟩ := h6 q _ (Array.getElem?_eq_getElem hq)
  have hs : c9.slots = (s.heap[q]).slots := Array.ext_getElem? fun i => e4 i (by simp)
  rw [hs] at e2
  have e5 : U.heap[q]? = some c9 := e1
  rw [e5, e2, Array.getElem?_eq_getElem hq]
section FRT
variable {p : Program} {l : Launch} {e : Env} {R : Room} {s : State} {m : MethodId} {args : Array Value} {below : List Frame} {meth : Method} {c : Code} {H : Heap} {locs : List Loc} {cells slots mc ms : Nat} {Q : State → Prop}
variable {cc : ByteArray} {pc : Nat} {ls : Array Slot} {rest st0 : List Value} {D : va_G} {cl : List vw_C} {tys : List (ClassId × FieldType)} {z : Nat} {b : Nat → Nat} {C : fr_C} {a : Array Value}
/-- a call that writes nothing that was there and makes nothing: the heap is the same -/
theorem fr_callP {S : Type} {post : Int32 → S → Prop} {B : S → State → Prop} (hr : va_Run p l e R s m args below meth c s.heap [] 0 0 0 0 (F0 m pc ls st0) rest (va_Qi post B (fr_A s.heap.size) a) (fr_A s.heap.size))
    (kk : ∀ (r : Int32) (u : S), post r u → W p l e R s m args below meth c s.heap [] 0 0 Q (F0 m (pc + 3) ls (.int r :: rest))) : W p l e R s m args below meth c s.heap [] 0 0 Q (F0 m pc ls st0) := by
  intro T hT X
  obtain ⟨v, st₀, t, T', L, h0, X', hL, e1, e2, ⟨⟨r, u, hv, hp, hb⟩, hF⟩, st⟩ := hr T hT X
  cases hv
  have X2 : Stand p l e R s m args below meth c T' [] 0 0 := Stand.forget X' hL
  have hsz : T'.heap.size ≤ s.heap.size := by have := X2.heapSize; omega
  have hh : T'.heap = s.heap := by
    have f1 := hF.1
    rw [h0, ← e1] at f1
    refine Array.ext_getElem? fun q => ?_
    rcases Nat.lt_or_ge q s.heap.size with hq | hq
    · rw [e1]
      exact (hF.2 q (by rw [h0]; exact hq) (fun y => absurd (show s.heap.size ≤ q from y) (by omega))).trans (by rw [h0])
    · rw [Array.getElem?_eq_none (by omega), Array.getElem?_eq_none hq]
  obtain ⟨t2, a1, b1⟩ := kk r u hp T' hh X2
  exact ⟨t2, st t2 a1, b1⟩
set_option maxHeartbeats 1000000 in
/-- the constructor of NoSuchElementException over a fresh cell, and the throw out of the method -/
theorem fr_ctor {V : State} {msg : Value} {q : Addr} {cX : ClassId} {kX : Class} {g : JFrame} {rest : List Value} (X : Stand p l e R s m args below meth c V [] cells slots) (hexec : p.tables.exec = Jvm.exec) (htr : e.platform.stackTraces = false) (hown : s.vm.findClass "HarvestSteps" = some m.cls)
    (h : ∀ w ∈ tAll, w.before args s = true) (hfX : s.vm.findClass tNo = some cX) (hkX : s.vm.classes[cX]? = some kX) (hcell : V.heap[q]? = some (freshCell cX kX)) (hnew : s.heap.size ≤ q) (hmsg : msg.isRef = true)
    (hg : g.method = m) (hsize : g.locals.size = c.maxLocals) (hlk : g.locked = none) (hen : g.entered = []) (hstack : g.stack = msg :: .ref q :: .ref q :: rest)
    (d6 : decode c.code g.pc = .ok (.invokespecial 153, 3)) (d9 : decode c.code (g.pc + 3) = .ok (.athrow, 1)) (hout : ∀ x ∈ c.exceptionTable.toList, covers x (g.pc + 3) = false)
    (hRf : 6 ≤ R.frames) (hRl : 2 * g.monitorRoom + ((Value.ref q :: rest).map fun v => v.category).sum + 81 ≤ R.locals) (hlocks : meth.locks = false) :
    ∃ (U : State) (ce : Cell), Steps p.tables e below (V.setTop g) U ∧ U.status = .running ∧ Ended U below (.threw q) ∧ s.WarmedH U.vm ∧ s.sameButNew ({ U with vm := s.vm } : State) [] cells slots ∧ U.heap[q]? = some ce ∧ ce.vm = .none ∧ ce.cls = cX := by
  have hpl : e.platform.magicAccessors = ({} : Platform).magicAccessors := by rw [X.admits.platform]
  obtain ⟨T, Z0, L, -, Y⟩ := ThrowableC.of_atoms (pl := e.platform) (args := args) (by rw [X.admits.platform]) (by rw [X.admits.platform]) hpl (fun x hx => h x (tAll_T x hx))
  obtain ⟨Z, M, LZ, LM, hnZ⟩ := Init0T.ofS_atoms (args := args) hpl L Y (fun x hx => h x (tAll_S x hx))
  obtain ⟨P2, Ps, hlen, L2, hL, hP2m, hl2, hpass⟩ := Bundle.chainS (args := args) hpl hnZ ["java/lang/Exception"] "java/lang/RuntimeException" (by decide +kernel) (by decide +kernel) (fun x hx => h x (by unfold tAll tCh; exact List.mem_append_right _ (List.mem_append_right _ hx)))
  obtain ⟨P1, L1, hP1m, hs1⟩ := PassC.ofS_atoms (args := args) (s := s) hpl (X := tNo) (Y := "java/lang/RuntimeException") (index := 13) (bytes := tBy) (by decide +kernel) (by decide +kernel) (by decide +kernel) (by decide +kernel) (by decide +kernel) (by decide +kernel)
    (fun x hx => h x (by unfold tAll tCh; exact List.mem_append_right _ (List.mem_append_left _ hx)))
  have hl1 : P1.sup = P2.m := Option.some.inj (hs1.symm.trans hP2m)
  have hf : s.vm.findClass tNo = some P1.m.cls := findClass_of_methodNamed hP1m
  cases Option.some.inj (hfX.symm.trans hf)
  obtain ⟨c1, k1, hc1, hk, hord, -⟩ := Cond.instantiable_spec (h (.instantiable tNo 6) (by decide +kernel))
  cases Option.some.inj (hc1.symm.trans hf)
  cases Option.some.inj (hkX.symm.trans hk)
  have sel : ∀ (x : MethodName) (i : MethodId), Cond.selects tNo x x ∈ tAll → s.methodNamed? x = some i → (x.cls ≠ "java/lang/invoke/MethodHandle" ∧ x.cls ≠ "java/lang/invoke/VarHandle") → selectMethod e.platform s.vm P1.m.cls i = .method i := by
    intro x i hx hi hn
    obtain ⟨c2, r2, m2, q1, q2, q3, q4, -⟩ := Cond.selects_spec (h _ hx)
    cases Option.some.inj (q1.symm.trans hf)
    cases Option.some.inj (q2.symm.trans (State.methodFound?_of_named hi hn))
    cases Option.some.inj (q3.symm.trans hi)
    rw [Launch.admits_selectMethod X.admits]; exact q4
  have hsel0 := sel Bundle.tFill0 T.fill0 (by decide +kernel) Y.fill0 (by decide)
  have hselF := sel Bundle.tFill T.fill (by decide +kernel) Y.fill (by decide)
  obtain ⟨cS, hcS, hiss⟩ := Y.statics
  obtain ⟨u0, hu0⟩ := Cond.staticRefV Y.unassigned L.unassignedStatic L.statics hcS hiss (h (.isRef (.static Bundle.tN "UNASSIGNED_STACK" Bundle.steD)) (by decide +kernel))
  obtain ⟨sen, hsen⟩ := Cond.staticRefV Y.sentinel L.sentinelStatic L.statics hcS hiss (h (.isRef (.static Bundle.tN "SUPPRESSED_SENTINEL" Bundle.listD)) (by decide +kernel))
  obtain ⟨cV, hcV, heV, -, hkeep⟩ := X.same.2.2.2.2.2 T.aS cS hcS
  have hkn : cV.vm ≠ .unknown := by
    rw [heV]
    intro (hu : cS.vm = .unknown)
    rw [hu] at hiss
    cases hiss
  have hne : T.aS ≠ q := Nat.ne_of_lt (Nat.lt_of_lt_of_le (Array.getElem?_eq_some_iff.mp hcS).1 hnew)
  obtain ⟨i198, j198, fB, b1, b2, b3, b4, -, b5, b6, b7⟩ := Cond.ownField (t := .object "java/lang/Object") Y.found L.cls (by decide +kernel) (h (.fieldLink Bundle.tN 198 Bundle.tN "backtrace" "Ljava/lang/Object;") (by decide +kernel)) (h (.lays Bundle.tN Bundle.tN "backtrace" "Ljava/lang/Object;") (by decide +kernel)) e.platform hpl
  obtain ⟨iM, hM⟩ := Y.msg
  obtain ⟨tyC, dC, hdC, hnC⟩ := Cond.laysAt hf hk Y.cause (h (.lays tNo Bundle.tN "cause" "Ljava/lang/Throwable;") (by decide +kernel))
  obtain ⟨tyS, dS, hdS, hnS⟩ := Cond.laysAt hf hk Y.stack (h (.lays tNo Bundle.tN "stackTrace" Bundle.steD) (by decide +kernel))
  obtain ⟨tyP, dP, hdP, hnP⟩ := Cond.laysAt hf hk Y.supp (h (.lays tNo Bundle.tN "suppressedExceptions" Bundle.listD) (by decide +kernel))
  obtain ⟨tyM, -⟩ := Cond.laysAt hf hk hM (h (.lays tNo Bundle.tN "detailMessage" "Ljava/lang/String;") (by decide +kernel))
  obtain ⟨tyB, dB, hdB, hnB⟩ := Cond.laysAt hf hk b7 (h (.lays tNo Bundle.tN "backtrace" "Ljava/lang/Object;") (by decide +kernel))
  have nC := Cond.laysApart hdB hdC hnB hnC (by rw [b5, Y.causeName]; decide)
  have nS := Cond.laysApart hdB hdS hnB hnS (by rw [b5, Y.stackName]; decide)
  have nP := Cond.laysApart hdB hdP hnB hnP (by rw [b5, Y.suppName]; decide)
  have hdef : (freshCell P1.m.cls kX).slots[fB.slot]? = some .null := by
    rw [fresh_default (c := P1.m.cls) tyB, b6]; rfl
  obtain ⟨tm, -, -, -, vm1, hn1, -, -, -, -, -, -, -, hW1, st1⟩ := Steps.initColdS (tb := p.tables) (e := e) (below := below) (s := s) (U := V) X.here hexec X.warmed hpl hown (t := Bundle.initS tNo) rfl rfl (by decide +kernel)
    (h (.methodLink "HarvestSteps" 153 (Bundle.initS tNo)) (by decide +kernel)) (h (.instanceMethod (Bundle.initS tNo)) (by decide +kernel)) (bytes := tBy) (maxL := 2) (h (.code (Bundle.initS tNo) tBy 2 none) (by decide +kernel))
    (f := g) hg (a := q) (msg := msg) (rest := .ref q :: rest) hstack d6
  cases Option.some.inj (hn1.symm.trans hP1m)
  obtain ⟨vm2, X2, st2⟩ := (X.noted hW1).ctorMessageOffV hexec (g := { g with stack := .ref q :: rest }) hg hsize T L Z LZ M LM (P1 :: P2 :: Ps)
    (fun P hP => by
      rcases List.mem_cons.mp hP with rfl | hP
      · exact L1
      rcases List.mem_cons.mp hP with rfl | hP
      · exact L2
      · exact hL P hP) ⟨hl1, hl2, hpass⟩ (u0 := u0) (sen := sen) (self := q) hmsg (cell := freshCell P1.m.cls kX) (cellS := cV) hcell (fun _ => by simp) (by simp) rfl rfl hsel0 hselF hcV hne hkn
    (by rw [hkeep _ (by simp)]; exact hu0) (by rw [hkeep _ (by simp)]; exact hsen) (Takes.of_laid hk hord tyC (by rw [Y.causeType]; rfl)) (Takes.of_laid hk hord tyS (by rw [Y.stackType]; exact fits_refV_array _ u0))
    (Takes.of_laid hk hord tyP (by rw [Y.suppType]; exact fits_refV_object _ sen)) (Takes.of_laid hk hord tyM (by rw [Y.msgType]; exact fits_refV_object _ ⟨msg, hmsg⟩)) Y.objLocals
    ⟨{ ci198 := i198, i198 := j198, fBack := fB }, ⟨b1, b2, b3, b4⟩, by simpa [preparedCellV, Cell.setSlot, Cell.withEntry, Array.getElem?_setIfInBounds, nC, nS, nP, nC.symm, nS.symm, nP.symm] using hdef, fun _ _ => rfl⟩
    htr [] d6 (by simp only [List.length_cons, List.length_nil, hlen]; omega) (by simp only [List.length_cons, List.length_nil, hlen]; exact hRl)
  obtain ⟨w1, w2, w3, w4, w5⟩ := X2.athrowLeaves hexec (g := { g with stack := .ref q :: rest, pc := g.pc + 3 }) hg hlk hen hout (a := q) (rest := rest) rfl d9 hlocks
  refine ⟨_, _, st1 _ fun acts => ?_, w2, w3, w4, w5.weaken (fun y hy hlt => ?_) (Nat.le_refl _) (Nat.le_refl _), heapAt_setCell_self (s := (V.setVm vm1).setVm vm2) _ (Array.getElem?_eq_some_iff.mp hcell).1, rfl, rfl⟩
  · rw [doInvoke_state]
    exact st2 _ w1
  · exfalso
    have hb : y.base = q := by
      simp only [List.nil_append, List.mem_cons, List.not_mem_nil, or_false] at hy
      rcases hy with rfl | rfl | rfl | rfl | rfl <;> rfl
    rw [hb] at hlt
    exact Nat.not_lt.mpr hnew hlt
/-- 'throw new NoSuchElementException(text)', out of the method -/
theorem fr_throw {Qc : Array Value → State → Outcome → State → Prop} {free : Addr → Prop} {text : String} {is sx : Nat} {sa : Nat → Nat} (hexec : p.tables.exec = Jvm.exec) (hb : c.code = cc) (hl : l.stackTraces = false) (hown : s.vm.findClass "HarvestSteps" = some m.cls)
    (hk : (Cond.classLink "HarvestSteps" 149 tNo).before args s = true) (hini : (Cond.initialized tNo).before args s = true) (hT : fr_T z sa s s.heap) (hstr : vk_R "HarvestSteps" is text sx s) (hsize : ls.size = c.maxLocals)
    (d0 : decode cc pc = .ok (.new 149, 3)) (d3 : decode cc (pc + 3) = .ok (.dup, 1)) (d4 : decode cc (pc + 4) = .ok (.ldc is, 2)) (d6 : decode cc (pc + 6) = .ok (.invokespecial 153, 3)) (d9 : decode cc (pc + 9) = .ok (.athrow, 1))
    (hout : ∀ x ∈ c.exceptionTable.toList, covers x (pc + 9) = false) (hRf : 6 ≤ R.frames) (hRl : 100 ≤ R.locals) (hRc : 1 ≤ R.cells) (hRs : 6 ≤ R.slots) (hlocks : meth.locks = false)
    (hq : ∀ (q : Addr) (ce : Cell) (t : State), t.heap[q]? = some ce → ce.vm = .none → s.vm.findClass tNo = some ce.cls → s.WarmedH t.vm → s.heap.size ≤ t.heap.size → (∀ i : Nat, i < s.heap.size → t.heap[i]? = s.heap[i]?) → Qc args s (.threw q) t) :
    W p l e R s m args below meth c s.heap [] 0 0 (fr_MQT below Qc args s 1 6 free) (F0 m pc ls []) := by
  intro T hTh X
  have hat := hT.atoms (A := args)
  have htr : e.platform.stackTraces = false := (show e.platform.stackTraces = l.stackTraces by rw [X.admits.platform]).trans hl
  obtain ⟨vm₁, cX, kX, hfX, hkX, -, -, X₁, st1⟩ := X.newCold hexec (own := "HarvestSteps") (C := tNo) (index := 149) (n := 6) hown hk (hat (.instantiable tNo 6) (by decide +kernel)) hini
    (g := F0 m pc ls []) rfl (by rw [hb]; exact d0) (by omega) (by omega)
  generalize hT1 : (T.setVm vm₁).pushCell { cls := cX, slots := kX.instanceTypes.map defaultValue, vm := .none } = T1 at X₁ st1
  have hcell : T1.heap[T.heap.size]? = some (freshCell cX kX) := by rw [← hT1]; exact State.heap_pushCell_size _ _
  have hcat : (Value.ref T.heap.size).category = 1 := rfl
  have d3' : decode c.code (pc + 3) = .ok (.dup, 1) := by rw [hb]; exact d3
  obtain ⟨U, ce, hsteps, hrun, hend, hW, hsame, hce, hO1, hO2⟩ := fr_ctor X₁ hexec htr hown hat hfX hkX hcell (by rw [hTh]; exact Nat.le_refl _) (msg := .ref sx) rfl
    (g := { method := m, pc := pc + 6, locals := ls, stack := [.ref sx, .ref T.heap.size, .ref T.heap.size], locked := none }) rfl hsize rfl rfl (rest := []) rfl
    (by rw [hb]; exact d6) (by rw [hb]; exact d9) hout (by omega) (by simp [hcat]; omega) hlocks
  obtain ⟨f1, f2⟩ := fr_same hsame
  refine ⟨U, ?_, .threw T.heap.size, hrun, hend, hq _ ce U hce hO1 (by rw [hO2]; exact hfX) hW f1 f2, [], ⟨⟨_, rfl⟩, hW, hsame.mono (by omega) (by omega)⟩, fun q hq => nomatch hq⟩
  refine st1 _ ?_
  show Steps p.tables e below (T1.setTop { method := m, pc := pc + 3, locals := ls, stack := [.ref T.heap.size], locked := none }) _
  jvm_step X₁.here [X₁.here.top, hexec, d3', Value.category]
  exact X₁.ldcString hexec (own := "HarvestSteps") (text := text) (index := is) (a := sx) hown hstr.1 hstr.2
    (g := { method := m, pc := pc + 4, locals := ls, stack := [.ref T.heap.size, .ref T.heap.size], locked := none }) rfl (by rw [hb]; exact d4) _ hsteps
end FRT
