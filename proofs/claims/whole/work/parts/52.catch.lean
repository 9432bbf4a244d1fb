/-! CALLS OF METHODS THAT THROW, AND OF A METHOD WITH A TABLE. -/
theorem fr_table {L : List ExceptionTableEntry} {a1 a2 a3 a4 : Nat} (h : L.map (fun h => (h.startPc, h.endPc, h.handlerPc, h.catchType)) = [(a1, a2, a3, a4)]) : ∃ x, L = [x] ∧ x.startPc = a1 ∧ x.endPc = a2 ∧ x.handlerPc = a3 ∧ x.catchType = a4 := by
  match L, h with
  | [x], h => simp at h; exact ⟨x, rfl, h⟩
def fr_PoT (Qc : Array Value → State → Outcome → State → Prop) (mc ms : Nat) (free : Addr → Prop) : Pt → Array Value → Addr → Pt → Prop := fun A a v B =>
  ∃ (g : JFrame) (mk : MethodId) (t : State) (L : List Loc), B.U.heap = t.heap ∧ Qc a (A.U.calling g mk a) (.threw v) t ∧ B.locs = A.locs ++ L ∧ (∀ q ∈ L, free q.base) ∧ B.cells = A.cells + mc ∧ B.slots = A.slots + ms
section FRK
variable {p : Program} {l : Launch} {e : Env} {R : Room} {s : State} {m : MethodId} {args : Array Value} {below : List Frame} {meth : Method} {c : Code} {H : Heap} {locs : List Loc} {cells slots mc ms : Nat} {Q : State → Prop}
variable {cc : ByteArray} {pc : Nat} {ls : Array Slot} {rest : List Value} {D : va_G} {tys : List (ClassId × FieldType)} {z : Nat} {b : Nat → Nat} {C : fr_C} {H0 : Heap}
variable {y : MethodName} {bytes : ByteArray} {maxL nL n index : Nat} {ret : Option FieldType} {ws : List Cond} {rm : Room} {Pc : Array Value → State → Prop} {Ts : List Cond} {own K : String} {b0 : Addr} {As : List Value}
/-- a call of a method that throws a NoSuchElementException, caught by the one row of this method's table -/
theorem fr_catchV (S : CallFix p m c cc nL s args Ts own) (hM : fr_MetT l y ws rm Pc (fr_QT D tys z b C) mc ms (fr_A z)) (cw : CallW R s args own K index y bytes maxL ret ws rm mc ms n) (hp : PreV s H K b0 Pc As)
    (hn : As.length = n) (hsize : ls.size = nL) (hW : (rest.map fun v => v.category).sum ≤ 8) (hdg : decode cc pc = .ok (.invokevirtual index, 3)) (hf : cells + mc ≤ R.cells ∧ slots + ms ≤ R.slots) (hS : va_S (fr_A z) H0 H locs)
    (x : ExceptionTableEntry) (hsplit : c.exceptionTable.toList = [x]) (hcov : covers x pc = true) (h0 : x.catchType ≠ 0) (hlink : (Cond.classLink own x.catchType tNo).before args s = true) (hcast : va_Nw (.castable tNo tNo) s) {hp9 : Nat} (hpc : x.handlerPc = hp9)
    {st0 : List Value} (hst : st0 = As.reverse ++ .ref b0 :: rest)
    (kk : ∀ (q : Addr) (H1 : Heap) (locs1 : List Loc), fr_W D hCl z b C H1 → va_S (fr_A z) H0 H1 locs1 → W p l e R s m args below meth c H1 locs1 (cells + mc) (slots + ms) Q (F0 m hp9 ls [.ref q])) : W p l e R s m args below meth c H locs cells slots Q (F0 m pc ls st0) := by
  obtain ⟨⟨hrc, hrs, hfr, hlo, hws, hcw, hcode, hini, hy, hlen, hl⟩, hin, hse⟩ := cw
  obtain ⟨hx, hb, hml, ho, -⟩ := S
  obtain ⟨hbl, ⟨cellB, hcB, hoB, hclB⟩, hPc⟩ := hp
  subst hpc
  intro T hT X
  have hK : BackT l R p e below s args y 3 8 (PreOf R mc ms Pc) (fr_PoT (fr_QT D tys z b C) mc ms (fr_A z)) := by
    refine BackT.of_free (S := headSpec ws rm) (P := Pc) (K := fun _ _ _ _ _ => True) (bytes := bytes) (maxL := maxL) (ret := ret) (E := fun _ _ _ _ L k n => k = mc ∧ n = ms ∧ ∀ q ∈ L, fr_A z q.base) hM hfr hlo ?_ ?_ (fun _ _ _ _ _ _ _ _ _ => trivial) ?_ ?_
    · intro m meth c A a X hp
      exact ⟨atoms_intro fun w hw => hws w hw _ _ X.warmed, hws _ hcw _ _ X.warmed, word_at X.warmed (Or.inl (by first | rfl | simp [Cond.onTables, Cond.keeps, Cond.steady])) hini, by rw [show (headSpec ws rm).room.cells = mc from hrc]; exact hp.1, by rw [show (headSpec ws rm).room.slots = ms from hrs]; exact hp.2.1⟩
    · intro m meth c A a g mk X hp
      exact hbl _ _ _ _ hp.2.2
    · rintro a st o t ⟨hq, L, hF, hL⟩
      exact ⟨L, mc, ms, hF, rfl, rfl, hL⟩
    · rintro m meth c A a g mk v t L k n X hp hq hF ⟨e1, e2, hL⟩
      subst e1; subst e2
      exact ⟨g, mk, t, L, rfl, hq.1, rfl, hL, rfl, rfl⟩
  obtain ⟨mk, methM, hnamed, hmethM, hstM, habM⟩ := Cond.instanceMethod_spec hin
  obtain ⟨methM', cM, hmethM', -, -, -, -, -, -, hsigM⟩ := Cond.code_spec hnamed hcode
  cases hmethM.symm.trans hmethM'
  obtain ⟨c2, r2, m2, q1, q2, q3, q4, kP, hkP, hkPi⟩ := Cond.selects_spec hse
  cases hclB.symm.trans q1
  cases (State.methodFound?_of_named hnamed hy).symm.trans q2
  cases hnamed.symm.trans q3
  obtain ⟨vm₁, X₁, st1⟩ := X.invokevirtual hx ho hl hnamed hmethM hstM hkP hkPi hy (a := b0) (cell := cellB) (by rw [hT]; exact hcB)
    (fun k h => by rw [h] at hoB; cases hoB) (by rw [Launch.admits_selectMethod X.admits]; exact q4) hmethM habM hkP hkPi (g := F0 m pc ls st0) rfl (argsL := As) (rest := rest) (hn.trans (hlen _ hsigM)) hst (by rw [hb]; exact hdg)
  obtain ⟨q, ⟨U', l2, c2, s2⟩, X', ⟨g', mk', t, L, e1, ⟨q', ce, ho', hce, hvm, hcl, hG, hF⟩, h1, hL, h2, h3⟩, hsteps⟩ := hK m meth c ⟨T.setVm vm₁, locs, cells, slots⟩ (F0 m pc ls rest) (.invokevirtual index) mk (Value.ref b0 :: As).toArray X₁ rfl (hsize.trans hml.symm) (by rw [hb]; exact hdg) (by show 2 * 0 + (rest.map fun v => v.category).sum ≤ 8; omega) (X₁.named hnamed) ⟨hf.1, hf.2, hPc (T.setVm vm₁) hT X₁.warmed⟩
  dsimp only [Pt.U, Pt.locs, Pt.cells, Pt.slots] at X' e1 h1 h2 h3 hsteps hcl hF
  subst h1; subst h2; subst h3
  cases ho'
  have hcl2 : s.vm.findClass tNo = some ce.cls := by rw [← X₁.warmed.alike.findClass]; exact hcl
  obtain ⟨c3, cT, f1, f2, f3⟩ := Cond.castable_spec (va_Nw.use (A := args) rfl hcast)
  cases hcl2.symm.trans f1
  obtain ⟨hend, hk0⟩ := X'.catches_of_link ho h0 hlink f2 f3
  have hF1 : H.size ≤ U'.heap.size := by rw [e1, ← hT]; exact hF.1
  have hF2 : ∀ i : Nat, i < H.size → ¬ fr_A z i → U'.heap[i]? = H[i]? := fun i hi hA => by rw [e1, ← hT]; exact hF.2 i (by rw [← hT] at hi; exact hi) hA
  obtain ⟨vm', XV, st2⟩ := X'.thenCaughtThrough q (g := F0 m pc ls rest) rfl (st1 _ fun acts => by rw [doInvoke_state]; exact hsteps) (by rw [e1]; exact hce) (by rw [hvm]; rfl) hk0 [] x [] hsplit (fun _ h => nomatch h) hcov hend
  obtain ⟨t2, a1, b1⟩ := kk q U'.heap (locs ++ L) (by rw [e1]; exact hG.1) ⟨Nat.le_trans hS.1 hF1, fun i h1 h2 => (hF2 i (Nat.lt_of_lt_of_le h1 hS.1) h2).trans (hS.2.1 i h1 h2), fun i hi => (List.mem_append.mp hi).elim (hS.2.2 i) (hL i)⟩ (U'.setVm vm') rfl XV
  exact ⟨t2, st2.trans a1, b1⟩
/-- a call of a static method that has a table -/
theorem fr_runSW {Qc : Array Value → State → Outcome → State → Prop} {free : Addr → Prop} {hh : List (Nat × Nat × Nat × Nat)} {g : JFrame} (S : CallFix p m c cc nL s args Ts own) (hM : Met l y ws rm Pc Qc mc ms free) (hcw : Cond.codeWith y bytes maxL ret hh ∈ ws) (hG : GoodIn Ts ws) (hrc : rm.cells = mc) (hrs : rm.slots = ms)
    (hR : rm.frames + 1 ≤ R.frames ∧ 8 + (maxL + 11) + rm.locals ≤ R.locals) (hstt : (Cond.static y).before args s = true) (hini : (Cond.initialized y.cls).before args s = true) (hl : (Cond.methodLink own index y).before args s = true)
    (hy : y.cls ≠ "java/lang/invoke/MethodHandle" ∧ y.cls ≠ "java/lang/invoke/VarHandle") (hlen : (parseMethodDescriptor y.desc).map (fun d => d.parameters.length) = some As.length) (hp : PreS s H Pc As)
    (hg : g.method = m) (hsize : g.locals.size = nL) (hstack : g.stack = As.reverse ++ rest) (hW : 2 * g.monitorRoom + (rest.map fun v => v.category).sum ≤ 8) (hdg : decode cc g.pc = .ok (.invokestatic index, 3)) (hf : cells + mc ≤ R.cells ∧ slots + ms ≤ R.slots) :
    va_Run p l e R s m args below meth c H locs cells slots mc ms g rest (Qc As.toArray) free := by
  obtain ⟨hx, hb, hml, ho, hts⟩ := S
  have hK : Back l R p e below s args y 3 8 (PreOf R mc ms Pc) (PostOf Qc mc ms free) := va_backW (bytes := bytes) (maxL := maxL) (ret := ret) (hh := hh) hM hp.1 hrc hrs hR.1 hR.2 (pay_in hts hG) hcw (fun a' U hW => word_at hW (Or.inl (by first | rfl | simp [Cond.onTables, Cond.keeps, Cond.steady])) hini)
  have hc0 : (Cond.codeWith y bytes maxL ret hh).before args s = true := hts _ (hG _ hcw).1
  obtain ⟨mk, methM, cM, hnamed, hmethM, -, -, -, -, -, -, hsigM⟩ := Cond.codeWith_spec hc0
  obtain ⟨kP, hkP, -⟩ := className_of_methodNamed hnamed
  intro T hT X
  rw [hsigM] at hlen
  obtain ⟨vm₁, X₁, st1⟩ := X.invokestatic hx ho hl hnamed hmethM (Cond.static_spec hnamed hmethM hstt) hkP (Cond.initialized_spec (findClass_of_methodNamed hnamed) hkP hini) hy (g := g) hg (argsL := As) (rest := rest) (Option.some.inj hlen).symm hstack (by rw [hb]; exact hdg)
  obtain ⟨v, ⟨U', l2, c2, s2⟩, X', ⟨g', mk', t, L, e1, e2, hq, h1, hL, h2, h3⟩, hsteps⟩ := hK m meth c ⟨T.setVm vm₁, locs, cells, slots⟩ { g with stack := rest } (.invokestatic index) mk As.toArray X₁ hg (hsize.trans hml.symm) (by rw [hb]; exact hdg) hW (X₁.named hnamed) ⟨hf.1, hf.2, hp.2 (T.setVm vm₁) hT X₁.warmed⟩
  dsimp only [Pt.U, Pt.locs, Pt.cells, Pt.slots] at X' e1 e2 h1 h2 h3 hsteps
  subst h1; subst h2; subst h3
  exact ⟨v, (T.setVm vm₁).calling g' mk' As.toArray, t, U', L, hT, X', hL, e1, e2, hq, fun target h => st1 _ fun acts => by rw [doInvoke_state]; exact hsteps.trans h⟩
end FRK
