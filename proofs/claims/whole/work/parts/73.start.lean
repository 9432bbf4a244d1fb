theorem fr_tyP {A : Array Value} {s : State} {ty : FieldType} (h : (Cond.arrayClass ty).before A s = true) (hr : ∀ cA, va_RA s cA ty = (s.vm.findClass ("[" ++ ty.toString) = some cA)) : ∃ cA, ArrOfT s cA ty ∧ va_RA s cA ty := by
  obtain ⟨c, k, comp, h1, h2, h3⟩ := Cond.arrayClass_spec h
  exact ⟨c, fun n z => ⟨(fun k h => by cases h), k, h2, comp, h3⟩, by rw [hr]; exact h1⟩
theorem fr_tyO {s : State} {C : String} (h : va_AO C s) : ∃ cA, ArrOfT s cA (.object C) ∧ va_RA s cA (.object C) := by
  obtain ⟨comp, c, k, h1, h2, h3, h4, h5⟩ := Cond.arrayOver_spec h
  exact ⟨c, fun n z => ⟨(fun k h => by cases h), k, h3, comp, h4⟩, k, comp, h3, h4, h1, h5⟩
theorem tW_in : ∀ w ∈ tW, w ∈ lw_tbl := by decide +kernel
set_option maxHeartbeats 4000000 in
set_option maxRecDepth 100000 in
theorem whole_start {p : Program} {e : Env} {s : State} {m : MethodId} {below : List Frame} {meth : Method} {c : Code} (l : Launch) (hl9 : l.stackTraces = false) {b L : Nat} {xs : Nat → Int32} (hL : L ≤ 3587) (C0 : lw_At p s m meth c b L xs) : W p l e room_1 s m #[Value.ref b] below meth c s.heap [] 0 0 (lw_Z below #[Value.ref b] s) (entryFrame m ([Value.ref b] : List Value).toArray 7) := by
  obtain ⟨hx, hb, hr, hml, hown, hts, hX, hbl, hlocks, hgv⟩ := C0
  have hg := flat_of_before _ hgv
  have hT : ∀ w ∈ hw_tbl, w.before #[Value.ref b] s = true := fun w h => hts w (List.mem_filter.mp h).1
  have hts2 : ∀ w ∈ Cond.tt :: hw_tbl, w.before #[Value.ref b] s = true := fun w h => by
    rcases List.mem_cons.mp h with e | e
    · rw [e]; rfl
    · exact hT w e
  obtain ⟨c0, iS0, hKn0⟩ := u_known (C := hR_0) (T := hF_0) (N := 16) (n := 16) hT hi_0 (hT _ kw_40)
  obtain ⟨c1, iS1, hKn1⟩ := u_known (C := hR_1) (T := hF_1) (N := 4) (n := 4) hT hi_1 (hT _ kw_194)
  obtain ⟨c2, iS2, hKn2⟩ := u_known (C := hR_2) (T := hF_2) (N := 6) (n := 6) hT hi_2 (hT _ kw_234)
  obtain ⟨c3, iS3, hKn3⟩ := u_known (C := hR_3) (T := hF_3) (N := 4) (n := 4) hT hi_3 (hT _ kw_273)
  obtain ⟨c4, iS4, hKn4⟩ := u_known (C := hR_4) (T := hF_4) (N := 3) (n := 3) hT hi_4 (hT _ kw_48)
  obtain ⟨c5, iS5, hKn5⟩ := u_known (C := hR_5) (T := hF_5) (N := 34) (n := 34) hT hi_5 (hT _ kw_468)
  obtain ⟨dC, dI, hKc⟩ : ∃ (dC : Nat → ClassId) (dI : Nat → Nat → Nat), ∀ (k : Nat) (q : vw_C), hCl[k]? = some q → u_Kn s q.1 q.2.1 q.2.2 (dC k) (dI k) := by
    refine ⟨fun k => if k = 0 then c0 else if k = 1 then c1 else if k = 2 then c2 else if k = 3 then c3 else if k = 4 then c4 else c5, fun k => if k = 0 then iS0 else if k = 1 then iS1 else if k = 2 then iS2 else if k = 3 then iS3 else if k = 4 then iS4 else iS5, ?_⟩
    intro k q hq
    match k, hq with
    | 0, hq => cases hq; exact hKn0
    | 1, hq => cases hq; exact hKn1
    | 2, hq => cases hq; exact hKn2
    | 3, hq => cases hq; exact hKn3
    | 4, hq => cases hq; exact hKn4
    | 5, hq => cases hq; exact hKn5
    | k + 6, hq => simp [hCl] at hq
  obtain ⟨cI, aI⟩ := fr_tyP (ty := .int) (hT _ kw_74) (fun _ => rfl)
  obtain ⟨cZ, aZ⟩ := fr_tyP (ty := .boolean) (hT _ kw_73) (fun _ => rfl)
  obtain ⟨cJ, aJ⟩ := fr_tyP (ty := .long) (hT _ kw_661) (fun _ => rfl)
  have hoP := va_AO.of (hts (.arrayOver (.object "HarvestSteps$Page")) (by decide +kernel))
  have hoO := va_AO.of (hts (.arrayOver (.object "java/lang/Object")) (by decide +kernel))
  obtain ⟨cP, aP⟩ := fr_tyO hoP
  obtain ⟨cO, aO⟩ := fr_tyO hoO
  have hK : va_K (dC, dI) hCl (hTy cI cZ cJ cP cO) s := by
    refine ⟨hKc, fun k q h => ?_⟩
    match k, h with
    | 0, h => cases h; exact aI
    | 1, h => cases h; exact aZ
    | 2, h => cases h; exact aJ
    | 3, h => cases h; exact aP
    | 4, h => cases h; exact aO
    | k + 5, h => simp [hTy] at h
  have hA : ∀ a : Nat, a < s.heap.size → ¬ fr_A s.heap.size a := fun a ha y => absurd (show s.heap.size ≤ a from y) (by omega)
  have hlen := Cond.eq_int (n := 0) (hg (.eq (.length (.static "java/util/ArrayList" "DEFAULTCAPACITY_EMPTY_ELEMENTDATA" "[Ljava/lang/Object;")) (.int 0)) (by decide +kernel)) rfl
  obtain ⟨e0, he, hTe⟩ := va_Tof (N := 0) (f := fun _ => .null) (A := fr_A s.heap.size) (by decide) (hg (.arrayOf (.static "java/util/ArrayList" "DEFAULTCAPACITY_EMPTY_ELEMENTDATA" "[Ljava/lang/Object;") (.object "java/lang/Object")) (by decide +kernel)) hlen (fun j hj => absurd hj (Nat.not_lt_zero j)) hA
  have hZe := va_Zof (A := fr_A s.heap.size) (hts (.laysStatic "java/util/ArrayList" "DEFAULTCAPACITY_EMPTY_ELEMENTDATA" "[Ljava/lang/Object;") (by decide +kernel)) (hT _ kw_24) he hA
  obtain ⟨mi, hmi⟩ := va_Mi.of (hg (.isRef (.mirror "[Ljava/lang/Object;")) (by decide +kernel))
  have hXX : fr_X s.heap.size e0 mi s s.heap := ⟨hZe, hTe, hoO, hoP, va_Nw.of rfl (hts (.castable "HarvestSteps$Token" "java/lang/Object") (by decide +kernel)), va_Nw.of rfl (hts (.castable "[I" "java/lang/Cloneable") (by decide +kernel)), hmi, va_Dc.of (hts (.declares ⟨"java/lang/Object", "getClass", "()Ljava/lang/Class;"⟩) (by decide +kernel))⟩
  have hHS : s.vm.findClass "HarvestSteps" = some c0 := hKn0.2.1
  have hs0 := hts (.stringRef "HarvestSteps" 151 "no such harvester") (by decide +kernel)
  obtain ⟨-, -, -, a0, -, -, -, -, -, hv0⟩ := Cond.stringRef_spec hHS hs0
  have hs1 := hts (.stringRef "HarvestSteps" 156 "no page was answered") (by decide +kernel)
  obtain ⟨-, -, -, a1, -, -, -, -, -, hv1⟩ := Cond.stringRef_spec hHS hs1
  have hs2 := hts (.stringRef "HarvestSteps" 161 "no such row") (by decide +kernel)
  obtain ⟨-, -, -, a2, -, -, -, -, -, hv2⟩ := Cond.stringRef_spec hHS hs2
  have hs3 := hts (.stringRef "HarvestSteps" 175 "no such what") (by decide +kernel)
  obtain ⟨-, -, -, a3, -, -, -, -, -, hv3⟩ := Cond.stringRef_spec hHS hs3
  have hTT : fr_T s.heap.size (fun k => if k = 0 then a0 else if k = 1 then a1 else if k = 2 then a2 else a3) s s.heap := ⟨fun w hw => va_Nw.of (tW_face hw).2 (hts w (tW_in w hw)), fr_St.of (hts (.laysStatic "java/lang/Throwable" "UNASSIGNED_STACK" "[Ljava/lang/StackTraceElement;") (by decide +kernel)) (hT _ kw_35) (hg (.isRef (.static "java/lang/Throwable" "UNASSIGNED_STACK" "[Ljava/lang/StackTraceElement;")) (by decide +kernel)), fr_St.of (hts (.laysStatic "java/lang/Throwable" "SUPPRESSED_SENTINEL" "Ljava/util/List;") (by decide +kernel)) (hT _ kw_35) (hg (.isRef (.static "java/lang/Throwable" "SUPPRESSED_SENTINEL" "Ljava/util/List;")) (by decide +kernel)), vk_R.of hs0 hv0, vk_R.of hs1 hv1, vk_R.of hs2 hv2, vk_R.of hs3 hv3⟩
  have he0 : e0 < s.heap.size := by obtain ⟨cell, h1, -⟩ := hTe; exact (Array.getElem?_eq_some_iff.mp h1).1
  exact law_start hx hb hml hown hts2 hK hXX hTT hl9 hX hbl (hA b hbl) he0 hL hr hlocks rfl
