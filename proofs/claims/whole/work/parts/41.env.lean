theorem kw_199 : Cond.sameMethod "[I" "java/lang/Object" "clone" "()Ljava/lang/Object;" ∈ hw_tbl := hw_in1 179 rfl rfl
theorem kw_200 : Cond.native ⟨"java/lang/Object", "clone", "()Ljava/lang/Object;"⟩ ∈ hw_tbl := hw_in1 180 rfl rfl
theorem kw_208 : Cond.native ⟨"java/lang/System", "arraycopy", "(Ljava/lang/Object;ILjava/lang/Object;II)V"⟩ ∈ hw_tbl := hw_in1 188 rfl rfl
theorem kw_324 : Cond.sameMethod "java/lang/Object" "java/lang/Object" "getClass" "()Ljava/lang/Class;" ∈ hw_tbl := hw_in2 64 rfl rfl
theorem kw_332 : Cond.native ⟨"java/lang/Object", "getClass", "()Ljava/lang/Class;"⟩ ∈ hw_tbl := hw_in2 72 rfl rfl
theorem kw_430 : Cond.sameMethod "java/lang/Throwable" "java/lang/Throwable" "fillInStackTrace" "()Ljava/lang/Throwable;" ∈ hw_tbl := hw_in2 170 rfl rfl
theorem kw_436 : Cond.native ⟨"java/lang/Throwable", "fillInStackTrace", "(I)Ljava/lang/Throwable;"⟩ ∈ hw_tbl := hw_in2 176 rfl rfl
theorem kw_662 : Cond.sameMethod "java/lang/Throwable" "java/lang/Throwable" "fillInStackTrace" "(I)Ljava/lang/Throwable;" ∈ hw_tbl := hw_in3 162 rfl rfl
theorem kw_664 : Cond.sameMethod "[Ljava/lang/Object;" "java/lang/Object" "getClass" "()Ljava/lang/Class;" ∈ hw_tbl := hw_in3 164 rfl rfl
/-- what stands outside of the world, and stays: the list's own empty row at e0, the object of the rows' kind at mi -/
def fr_X (z e0 mi : Nat) (U : State) (H : Heap) : Prop := va_Z "java/util/ArrayList" "DEFAULTCAPACITY_EMPTY_ELEMENTDATA" "[Ljava/lang/Object;" (.ref e0) (fr_A z) U H ∧ va_T (.object "java/lang/Object") e0 0 (fun _ => .null) (fr_A z) U H ∧ va_AO "java/lang/Object" U ∧ va_AO "HarvestSteps$Page" U ∧ va_Nw (.castable "HarvestSteps$Token" "java/lang/Object") U ∧ va_Nw (.castable "[I" "java/lang/Cloneable") U ∧ va_Mi "[Ljava/lang/Object;" mi U ∧ va_Dc U
theorem fr_X.kept {z e0 mi : Nat} {U : State} {H H1 : Heap} (h : fr_X z e0 mi U H) (hq : ∀ a : Nat, a < H.size → ¬ fr_A z a → H1[a]? = H[a]?) : fr_X z e0 mi U H1 := ⟨h.1.kept hq, h.2.1.kept hq, h.2.2⟩
theorem fr_X.warm {z e0 mi : Nat} {s U : State} {H : Heap} (hW : s.WarmedH U.vm) (h : fr_X z e0 mi s H) : fr_X z e0 mi U H := by
  obtain ⟨h1, h2, h3, h4, h5, h6, h7, h8⟩ := h
  exact ⟨h1.moved hW.alike, h2.moved hW.alike, h3.moved hW.alike, h4.moved hW.alike, h5.warmC hW, h6.warmC hW, h7.moved hW.alike, h8.moved hW.alike⟩
theorem fr_X.same {z e0 mi : Nat} {u U : State} {H : Heap} (hv : u.vm = U.vm) (h : fr_X z e0 mi u H) : fr_X z e0 mi U H := by
  have hA : u.vm.Alike U.vm := by rw [← hv]; exact Vm.Alike.refl u.vm
  obtain ⟨h1, h2, h3, h4, h5, h6, h7, h8⟩ := h
  exact ⟨h1.moved hA, h2.moved hA, h3.moved hA, h4.moved hA, h5.same rfl hv, h6.same rfl hv, h7.moved hA, h8.moved hA⟩
def fr_GX (e0 mi : Nat) (D : va_G) (cl : List vw_C) (tys : List (ClassId × FieldType)) (z : Nat) (b : Nat → Nat) (C : fr_C) (U : State) : Prop := fr_G D cl tys z b C U ∧ fr_X z e0 mi U U.heap
theorem fr_blindX {e0 mi : Nat} {av : List Value} {D : va_G} {cl : List vw_C} {tys : List (ClassId × FieldType)} {z : Nat} {b : Nat → Nat} {C : fr_C} : FrameBlind (va_Pc av (fr_GX e0 mi D cl tys z b C)) :=
  fun a U g mk q => ⟨q.1, ⟨q.2.1.1, va_K.moved (u := U) (U := U.calling g mk a) (Vm.Alike.refl U.vm) q.2.1.2⟩, fr_X.same (u := U) (U := U.calling g mk a) rfl q.2.2⟩
theorem fr_preX {e0 mi : Nat} {av : List Value} {D : va_G} {cl : List vw_C} {tys : List (ClassId × FieldType)} {z : Nat} {b : Nat → Nat} {C : fr_C} {H : Heap} {s : State} {locs : List Loc} (hE : fr_W D cl z b C H) (hK : va_K D cl tys s) (hX : fr_X z e0 mi s s.heap) (hS : va_S (fr_A z) s.heap H locs) : ∀ U : State, U.heap = H → s.WarmedH U.vm → va_Pc av (fr_GX e0 mi D cl tys z b C) av.toArray U :=
  fun U hU hW => ⟨rfl, ⟨by rw [hU]; exact hE, va_K.moved hW.alike hK⟩, by rw [hU]; exact (hX.kept hS.2.1).warm hW⟩
section FRE
variable {p : Program} {l : Launch} {e : Env} {R : Room} {s : State} {m : MethodId} {args : Array Value} {below : List Frame} {meth : Method} {c : Code} {H : Heap} {locs : List Loc} {cells slots : Nat} {Q : State → Prop}
variable {cc : ByteArray} {pc : Nat} {ls : Array Slot} {rest : List Value} {D : va_G} {cl : List vw_C} {a : Nat} {tys : List (ClassId × FieldType)} {H0 : Heap} {z : Nat} {b : Nat → Nat} {C : fr_C}
theorem fr_any {ci : Nat} {fs : List Value} {r9 : vw_C} {E : String} (hK : va_K D cl tys s) (hE : fr_W D cl z b C H) (r : Nat × Nat) (ha : fr_ad b r = a) (he : C r = some (.inr (ci, fs))) (hc : cl[ci]? = some r9) (hN : va_Nw (.castable r9.1 E) s) : va_Any E s H a := by
  subst ha
  refine va_rAny hK (hE.P he) (q0 := 0) rfl hc (fun comp c0 h1 h2 => ?_)
  obtain ⟨c1, t1, f1, f2, f3⟩ := Cond.castable_spec (va_Nw.use (A := #[]) rfl hN)
  cases h2.symm.trans f1
  cases h1.symm.trans f2
  exact f3
/-- a reference is stored, of any kind that the array takes -/
theorem fr_aastM (hexec : p.tables.exec = Jvm.exec) (hb : c.code = cc) (hK : va_K D cl tys s) (hE : fr_W D cl z b C H) (hS : va_S (fr_A z) H0 H locs) (r : Nat × Nat) (t0 : Nat) (ha : fr_ad b r = a) {cA : ClassId} {E : String} {n v : Nat} {f : Nat → Option Nat} (he : C r = some (.inl (cA, n, .inr (.inr (.inr (.inr f)))))) (ht : tys[t0]? = some (cA, .object E)) (hr : va_Any E s H v) {i : Int32} (j : Nat) (hi : i = nI j) (hj : j < n) (hn : n < 2 ^ 31) (hdg : decode cc pc = .ok (.aastore, 1))
    (kk : ∀ (H1 : Heap) (locs1 : List Loc), fr_W D cl z b (fr_up C r (.inl (cA, n, .inr (.inr (.inr (.inr (va_up f j (some v)))))))) H1 → va_S (fr_A z) H0 H1 locs1 → W p l e R s m args below meth c H1 locs1 cells slots Q (F0 m (pc + 1) ls rest)) : W p l e R s m args below meth c H locs cells slots Q (F0 m pc ls (.ref v :: .int i :: .ref a :: rest)) := by
  subst ha
  subst hi
  have hcl9 : (nI j).toNatClampNeg = j := nI_clamp (by omega)
  have hlt : (nI j).toNatClampNeg < n := by rw [hcl9]; exact hj
  have h0 : ¬ nI j < 0 := nI_pos (by omega)
  obtain ⟨cellV, g1, g3, ⟨kC, hkC⟩, hasg⟩ := hr
  obtain ⟨kA, comp, k1, k2, k3, -⟩ := (hK.2 t0 _ ht).2
  obtain ⟨kE, hkE, -⟩ := Vm.findClass_spec k3
  refine W.aast hexec hb (hE.2.1 r _ he).1 (fun q h => by cases h) (fun h => by cases h) k1 k2 rfl hkE ⟨h0, by show _ < (arrV _ _ _).slots.size; rw [arrV_size]; exact hlt⟩ g1 (fun q h => by rw [h] at g3; cases g3) hkC (hasg _ k3) rfl rfl hdg fun H1 e z oq => ?_
  refine kk H1 _ (hE.set he ?_ z oq) (fr_put_S hS z oq (hE.2.1 r _ he).2)
  show H1[fr_ad b r]? = some (vp_cell _ _)
  rw [e]
  rw [vp_cell_q, vp_cell_q, arrV_store, hcl9]
  congr 2
  funext q
  by_cases hq : q = j
  · subst hq
    simp [updV, va_up, va_rf]
  · simp [updV, va_up, hq]
/-- clone of an int array -/
theorem fr_clone (hexec : p.tables.exec = Jvm.exec) (hb : c.code = cc) (hml : c.maxLocals = ls.size) {own ad : String} {index : Nat} (hown : s.vm.findClass own = some m.cls)
    (hlink : (Cond.methodLink own index ⟨ad, "clone", "()Ljava/lang/Object;"⟩).before args s = true) (hsame : (Cond.sameMethod ad "java/lang/Object" "clone" "()Ljava/lang/Object;").before args s = true)
    (hnat : (Cond.native ⟨"java/lang/Object", "clone", "()Ljava/lang/Object;"⟩).before args s = true) (hinst : (Cond.instanceMethod ⟨"java/lang/Object", "clone", "()Ljava/lang/Object;"⟩).before args s = true)
    (hsel : (Cond.selects ad ⟨ad, "clone", "()Ljava/lang/Object;"⟩ ⟨"java/lang/Object", "clone", "()Ljava/lang/Object;"⟩).before args s = true) (hcl : va_Nw (.castable ad "java/lang/Cloneable") s)
    (hK : va_K D cl tys s) (hE : fr_W D cl z b C H) (hS : va_S (fr_A z) H0 H locs) (r : Nat × Nat) (i t0 : Nat) (ha : fr_ad b r = a) {cA : ClassId} {n : Nat} {f : Nat → Int32} (he : C r = some (.inl (cA, n, .inl f))) (ht : tys[t0]? = some (cA, .int))
    (hnm : s.vm.findClass ad = some cA)
    (hframes : 1 ≤ R.frames) (hlocals : (rest.map fun v => v.category).sum + 14 ≤ R.locals) (hcells : cells + 1 ≤ R.cells) (hslots : slots + n ≤ R.slots) (hdg : decode cc pc = .ok (.invokevirtual index, 3))
    (kk : ∀ (q : Nat) (H1 : Heap), C (1, q) = none → fr_W D cl z (fr_ub b i q) (fr_up C (0, i) (.inl (cA, n, .inl f))) H1 → va_S (fr_A z) H0 H1 locs →
      W p l e R s m args below meth c H1 locs (cells + 1) (slots + n) Q (F0 m (pc + 3) ls (.ref q :: rest))) : W p l e R s m args below meth c H locs cells slots Q (F0 m pc ls (.ref a :: rest)) := by
  subst ha
  have hsz : (vp_cell cA (n, .inl f)).slots.size = n := arrV_size _ _ _
  have hvm0 : (vp_cell cA (n, .inl f)).vm = .none := rfl
  have hcl0 : (vp_cell cA (n, .inl f)).cls = cA := rfl
  have hcellE : ({ cls := (vp_cell cA (n, .inl f)).cls, slots := (vp_cell cA (n, .inl f)).slots } : Cell) = vp_cell cA (n, .inl f) := rfl
  obtain ⟨c0, t0', f1, f2, f3⟩ := Cond.castable_spec (va_Nw.use (A := args) rfl hcl)
  cases hnm.symm.trans f1
  intro T hT X
  have hcellT : T.heap[fr_ad b r]? = some (vp_cell cA (n, .inl f)) := by rw [hT]; exact (hE.2.1 r _ he).1
  obtain ⟨-, kA, hkA, comp, hkind⟩ := State.isArrayOf_alike X.warmed.alike ((hK.2 t0 _ ht).1 0 (fun _ => .null))
  obtain ⟨-, kS, hkS, compS, hkindS⟩ := (hK.2 t0 _ ht).1 0 (fun _ => .null)
  obtain ⟨vm', X', st⟩ := X.cloneArray hexec hown hlink hsame hnat hinst hsel (a := fr_ad b r) (cell := vp_cell cA (n, .inl f)) hcellT (fun k h => by rw [hvm0] at h; cases h) (by rw [hvm0]; exact fun h => by cases h) (by rw [hcl0]; exact hnm) f2 (by rw [hcl0]; exact f3)
    (fun i v hv => by
      rw [hcl0]
      have hk' : T.vm.classes[cA]? = some kA := hkA
      have hfit : fits .int v = true := va_fit (ty := .int) (F := fun j => .int (f j)) (fun _ _ => rfl) i v hv
      simpa [State.fitsSlot, State.slotType?, hk', hkind] using hfit)
    (g := F0 m pc ls (.ref (fr_ad b r) :: rest)) rfl (by rw [hml]) rfl (by rw [hb]; exact hdg) hframes (by show 2 * 0 + _ + 14 ≤ _; omega) hcells (by rw [hsz]; exact hslots) (hloader := by rw [hcl0]; exact Vm.clonesLoader_of_array hkS hkindS)
  rw [hcellE, hsz] at X'
  generalize hH1 : H.push (vp_cell cA (n, .inl f)) = H1
  have z1 : H1.size = H.size + 1 := by rw [← hH1, Array.size_push]
  have e1 : H1[H.size]? = some (vp_cell cA (n, .inl f)) := by rw [← hH1, Array.getElem?_push_size]
  have o1 : ∀ q : Nat, q < H.size → H1[q]? = H[q]? := fun q hq => by rw [← hH1, Array.getElem?_push, if_neg (Nat.ne_of_lt hq)]
  obtain ⟨t, b1, b2⟩ := kk H.size H1 hE.fresh (hE.new i e1 (by omega) o1) (fr_new_S hS (by omega) o1)
    ((T.setVm vm').pushCell (vp_cell cA (n, .inl f))) (by rw [← hH1, ← hT]; rfl) X'
  refine ⟨t, st t ?_, b2⟩
  rw [hcellE, hT]
  exact b1
end FRE
