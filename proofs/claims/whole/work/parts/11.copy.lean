/-! System.arraycopy over the world by roles: numbers, and references -/
section FRCP
variable {p : Program} {l : Launch} {e : Env} {R : Room} {s : State} {m : MethodId} {args : Array Value} {below : List Frame} {meth : Method} {c : Code} {H : Heap} {locs : List Loc} {cells slots : Nat} {Q : State → Prop}
variable {cc : ByteArray} {pc : Nat} {ls : Array Slot} {rest : List Value} {D : va_G} {cl : List vw_C} {a a0 : Nat} {tys : List (ClassId × FieldType)} {H0 : Heap} {z : Nat} {b : Nat → Nat} {C : fr_C}
theorem fr_nn (z : Nat) (hz : z < 2 ^ 31) : (nI z).toInt = ((nI z).toNatClampNeg : Int) := by
  rw [nI_toInt hz, nI_clamp hz]
theorem fr_copyi (hexec : p.tables.exec = Jvm.exec) (hb : c.code = cc) (hml : c.maxLocals = ls.size) {own : String} {index : Nat} (hown : s.vm.findClass own = some m.cls) (hlink : (Cond.methodLink own index arraycopyName).before args s = true) (hnat : (Cond.native arraycopyName).before args s = true) (hstat : (Cond.static arraycopyName).before args s = true) (hini : (Cond.initialized "java/lang/System").before args s = true)
    (hK : va_K D cl tys s) (hE : fr_W D cl z b C H) (hS : va_S (fr_A z) H0 H locs) (r0 r1 : Nat × Nat) (t0 t1 : Nat) (ha0 : fr_ad b r0 = a0) (ha : fr_ad b r1 = a) {c0 c1 : ClassId} {n0 n1 : Nat} {f g : Nat → Int32} {ty : FieldType} (he0 : C r0 = some (.inl (c0, n0, .inl f))) (he1 : C r1 = some (.inl (c1, n1, .inl g))) (ht0 : tys[t0]? = some (c0, ty)) (ht1 : tys[t1]? = some (c1, ty)) (hprim : refKind ty = false)
    (sp dp n : Nat) {isp idp i9 : Int32} (hsp : isp = nI sp) (hdp : idp = nI dp) (hn : i9 = nI n) (h4 : sp + n ≤ n0) (h5 : dp + n ≤ n1) (h40 : n0 < 2 ^ 31) (h50 : n1 < 2 ^ 31) (hfit : ∀ i, i < n → fits ty (.int (f (sp + i))) = true)
    (hframes : 1 ≤ R.frames) (hlocals : (rest.map fun v => v.category).sum + (nativeFrameWords "java/lang/System" "arraycopy" 5 + 11) ≤ R.locals) (hdg : decode cc pc = .ok (.invokestatic index, 3))
    (kk : ∀ (H1 : Heap) (locs1 : List Loc), fr_W D cl z b (fr_up C r1 (.inl (c1, n1, .inl (va_cpy f g sp dp n)))) H1 → va_S (fr_A z) H0 H1 locs1 → W p l e R s m args below meth c H1 locs1 cells slots Q (F0 m (pc + 3) ls rest)) : W p l e R s m args below meth c H locs cells slots Q (F0 m pc ls (.int i9 :: .int idp :: .ref a :: .int isp :: .ref a0 :: rest)) := by
  subst hsp; subst hdp; subst hn; subst ha0; subst ha
  have csp : (nI sp).toNatClampNeg = sp := nI_clamp (by omega)
  have cdp : (nI dp).toNatClampNeg = dp := nI_clamp (by omega)
  have cn : (nI n).toNatClampNeg = n := nI_clamp (by omega)
  have h1 : ¬ nI sp < 0 := nI_pos (by omega)
  have h2 : ¬ nI dp < 0 := nI_pos (by omega)
  have h3 : ¬ nI n < 0 := nI_pos (by omega)
  intro T hT X
  have hc0 : H[fr_ad b r0]? = some (vp_cell c0 (n0, .inl f)) := (hE.2.1 r0 _ he0).1
  have hc1 : H[fr_ad b r1]? = some (vp_cell c1 (n1, .inl g)) := (hE.2.1 r1 _ he1).1
  have hz1 : z ≤ fr_ad b r1 := (hE.2.1 r1 _ he1).2
  obtain ⟨-, k0, hk0, cm0, hkk0⟩ := (hK.2 t0 _ ht0).1 n0 (fun j => .int (f j))
  obtain ⟨-, k1, hk1, cm1, hkk1⟩ := (hK.2 t1 _ ht1).1 n1 (fun j => .int (g j))
  obtain ⟨vm', X', step⟩ := X.arraycopy hexec hown hlink hnat hstat hini (src := fr_ad b r0) (dst := fr_ad b r1) (cs := vp_cell c0 (n0, .inl f)) (cd := vp_cell c1 (n1, .inl g)) (srcPos := nI sp) (destPos := nI dp) (n := nI n) (by rw [hT]; exact hc0) (by rw [hT]; exact hc1)
    (fun _ h => by cases h) (fun _ h => by cases h) (fun h => by cases h) (fun h => by cases h) hk0 hk1 hkk0 hkk1 (by simp [hprim]) h1 h2 h3
    (by rw [fr_nn sp (by omega), fr_nn n (by omega), csp, cn]; show ¬ _ > ((arrV c0 n0 (fun j => .int (f j))).slots.size : Int); rw [arrV_size]; omega)
    (by rw [fr_nn dp (by omega), fr_nn n (by omega), cdp, cn]; show ¬ _ > ((arrV c1 n1 (fun j => .int (g j))).slots.size : Int); rw [arrV_size]; omega)
    (fun vm₁ _ i hi => by
      rw [cn] at hi
      have e : (vp_cell c0 (n0, .inl f)).slots.getD ((nI sp).toNatClampNeg + i) .null = .int (f (sp + i)) := by
        rw [csp]
        show (arrV c0 n0 (fun j => .int (f j))).slots.getD _ _ = _
        rw [Array.getD_eq_getD_getElem?, arrV_read _ _ (by omega)]
        rfl
      refine ⟨?_, ?_⟩
      · rw [e]
        exact hfit i hi
      · rw [e]
        exact trivial)
    (g := F0 m pc ls (.int (nI n) :: .int (nI dp) :: .ref (fr_ad b r1) :: .int (nI sp) :: .ref (fr_ad b r0) :: rest)) rfl (by rw [hml]) (rest := rest) rfl (by rw [hb]; exact hdg) hframes (by show 2 * 0 + _ + _ ≤ _; omega)
  have e1 : copied (vp_cell c0 (n0, .inl f)) (vp_cell c1 (n1, .inl g)) (nI sp) (nI dp) (nI n) = vp_cell c1 (n1, .inl (va_cpy f g sp dp n)) := by
    have h := va_copied (fun z => Value.int z) c0 c1 (n0 := n0) (n1 := n1) (sp := (nI sp).toNatClampNeg) (dp := (nI dp).toNatClampNeg) (n := (nI n).toNatClampNeg) f g (by rw [csp, cn]; exact h4)
    rw [csp, cdp, cn] at h
    have h9 : copied (vp_cell c0 (n0, .inl f)) (vp_cell c1 (n1, .inl g)) (nI sp) (nI dp) (nI n) = (arrV c1 n1 (fun j => Value.int (g j))).storeRun (nI dp).toNatClampNeg ((arrV c0 n0 (fun j => Value.int (f j))).stretch (nI sp).toNatClampNeg (nI n).toNatClampNeg) := rfl
    rw [h9, csp, cdp, cn]
    exact h
  rw [e1] at X' step
  have hl : fr_ad b r1 < H.size := (Array.getElem?_eq_some_iff.mp hc1).1
  have hheap : ((T.setVm vm').setCell (fr_ad b r1) (vp_cell c1 (n1, .inl (va_cpy f g sp dp n)))).heap = H.setIfInBounds (fr_ad b r1) (vp_cell c1 (n1, .inl (va_cpy f g sp dp n))) := by rw [← hT]; rfl
  have oq : ∀ q : Nat, q ≠ fr_ad b r1 → (H.setIfInBounds (fr_ad b r1) (vp_cell c1 (n1, .inl (va_cpy f g sp dp n))))[q]? = H[q]? := fun q hq => by simp [Array.getElem?_setIfInBounds, Ne.symm hq]
  obtain ⟨t, a1, b1⟩ := kk _ _ (hE.set he1 (show (H.setIfInBounds (fr_ad b r1) _)[fr_ad b r1]? = some _ by simp [Array.getElem?_setIfInBounds, hl]) (by simp) oq) ⟨by simp; exact hS.1, fun q g1 g2 => by
      rw [oq q (fun e => g2 (by rw [e]; exact hz1))]
      exact hS.2.1 q g1 g2, fun q hq => by
      rcases List.mem_append.mp hq with h | h
      · exact hS.2.2 q h
      · obtain ⟨z9, -, hz9⟩ := List.mem_map.mp h
        rw [← hz9]
        exact hz1⟩ _ hheap X'
  exact ⟨t, step t a1, b1⟩
theorem fr_copyq (hexec : p.tables.exec = Jvm.exec) (hb : c.code = cc) (hml : c.maxLocals = ls.size) {own : String} {index : Nat} (hown : s.vm.findClass own = some m.cls) (hlink : (Cond.methodLink own index arraycopyName).before args s = true) (hnat : (Cond.native arraycopyName).before args s = true) (hstat : (Cond.static arraycopyName).before args s = true) (hini : (Cond.initialized "java/lang/System").before args s = true)
    (hK : va_K D cl tys s) (hE : fr_W D cl z b C H) (hS : va_S (fr_A z) H0 H locs) (r0 r1 : Nat × Nat) (t0 t1 : Nat) (ha0 : fr_ad b r0 = a0) (ha : fr_ad b r1 = a) {c0 c1 : ClassId} {n0 n1 : Nat} {f g : Nat → Option Nat} {E0 E1 : String} (he0 : C r0 = some (.inl (c0, n0, .inr (.inr (.inr (.inr f)))))) (he1 : C r1 = some (.inl (c1, n1, .inr (.inr (.inr (.inr g)))))) (ht0 : tys[t0]? = some (c0, .object E0)) (ht1 : tys[t1]? = some (c1, .object E1))
    (sp dp n : Nat) {isp idp i9 : Int32} (hsp : isp = nI sp) (hdp : idp = nI dp) (hn : i9 = nI n) (h4 : sp + n ≤ n0) (h5 : dp + n ≤ n1) (h40 : n0 < 2 ^ 31) (h50 : n1 < 2 ^ 31) (hel : ∀ i : Nat, i < n → ∀ y : Nat, f (sp + i) = some y → va_Any E1 s H y)
    (hframes : 1 ≤ R.frames) (hlocals : (rest.map fun v => v.category).sum + (nativeFrameWords "java/lang/System" "arraycopy" 5 + 11) ≤ R.locals) (hdg : decode cc pc = .ok (.invokestatic index, 3))
    (kk : ∀ (H1 : Heap) (locs1 : List Loc), fr_W D cl z b (fr_up C r1 (.inl (c1, n1, .inr (.inr (.inr (.inr (va_cpy f g sp dp n))))))) H1 → va_S (fr_A z) H0 H1 locs1 → W p l e R s m args below meth c H1 locs1 cells slots Q (F0 m (pc + 3) ls rest)) : W p l e R s m args below meth c H locs cells slots Q (F0 m pc ls (.int i9 :: .int idp :: .ref a :: .int isp :: .ref a0 :: rest)) := by
  subst hsp; subst hdp; subst hn; subst ha0; subst ha
  have csp : (nI sp).toNatClampNeg = sp := nI_clamp (by omega)
  have cdp : (nI dp).toNatClampNeg = dp := nI_clamp (by omega)
  have cn : (nI n).toNatClampNeg = n := nI_clamp (by omega)
  have h1 : ¬ nI sp < 0 := nI_pos (by omega)
  have h2 : ¬ nI dp < 0 := nI_pos (by omega)
  have h3 : ¬ nI n < 0 := nI_pos (by omega)
  intro T hT X
  have hc0 : H[fr_ad b r0]? = some (vp_cell c0 (n0, .inr (.inr (.inr (.inr f))))) := (hE.2.1 r0 _ he0).1
  have hc1 : H[fr_ad b r1]? = some (vp_cell c1 (n1, .inr (.inr (.inr (.inr g))))) := (hE.2.1 r1 _ he1).1
  have hz1 : z ≤ fr_ad b r1 := (hE.2.1 r1 _ he1).2
  obtain ⟨-, k0, hk0, cm0, hkk0⟩ := (hK.2 t0 _ ht0).1 n0 (fun j => va_rf (f j))
  obtain ⟨-, k1, hk1, cm1, hkk1⟩ := (hK.2 t1 _ ht1).1 n1 (fun j => va_rf (g j))
  obtain ⟨vm', X', step⟩ := X.arraycopy hexec hown hlink hnat hstat hini (src := fr_ad b r0) (dst := fr_ad b r1) (cs := vp_cell c0 (n0, .inr (.inr (.inr (.inr f))))) (cd := vp_cell c1 (n1, .inr (.inr (.inr (.inr g))))) (srcPos := nI sp) (destPos := nI dp) (n := nI n) (by rw [hT]; exact hc0) (by rw [hT]; exact hc1)
    (fun _ h => by cases h) (fun _ h => by cases h) (fun h => by cases h) (fun h => by cases h) hk0 hk1 hkk0 hkk1 rfl h1 h2 h3
    (by rw [fr_nn sp (by omega), fr_nn n (by omega), csp, cn]; show ¬ _ > ((arrV c0 n0 (fun j => va_rf (f j))).slots.size : Int); rw [arrV_size]; omega)
    (by rw [fr_nn dp (by omega), fr_nn n (by omega), cdp, cn]; show ¬ _ > ((arrV c1 n1 (fun j => va_rf (g j))).slots.size : Int); rw [arrV_size]; omega)
    (fun vm₁ hal i hi => by
      rw [cn] at hi
      have e : (vp_cell c0 (n0, .inr (.inr (.inr (.inr f))))).slots.getD ((nI sp).toNatClampNeg + i) .null = va_rf (f (sp + i)) := by
        rw [csp]
        show (arrV c0 n0 (fun j => va_rf (f j))).slots.getD _ _ = _
        rw [Array.getD_eq_getD_getElem?, arrV_read _ _ (by omega)]
        rfl
      rw [e]
      cases hy : f (sp + i) with
      | none => exact ⟨rfl, trivial⟩
      | some y =>
        obtain ⟨cellV, g1, g2, ⟨kC, hkC⟩, hasg⟩ := hel i hi y hy
        obtain ⟨kA, comp, r1, r2, r3, -⟩ := (hK.2 t1 _ ht1).2
        cases hk1.symm.trans r1
        cases hkk1.symm.trans r2
        obtain ⟨kE, hkE, -⟩ := Vm.findClass_spec r3
        obtain ⟨kC', hkC', -⟩ := hal.2.2 _ _ hkC
        obtain ⟨kE', hkE', -⟩ := hal.2.2 _ _ hkE
        refine ⟨rfl, cellV, (show T.heap[y]? = some cellV by rw [hT]; exact g1), (fun q h => by rw [h] at g2; cases g2), ⟨kC', hkC'⟩, ?_, ?_⟩
        · exact ⟨kE', hkE'⟩
        · show vm₁.assignable _ _ = true
          rw [hal.assignable]
          exact hasg _ r3)
    (g := F0 m pc ls (.int (nI n) :: .int (nI dp) :: .ref (fr_ad b r1) :: .int (nI sp) :: .ref (fr_ad b r0) :: rest)) rfl (by rw [hml]) (rest := rest) rfl (by rw [hb]; exact hdg) hframes (by show 2 * 0 + _ + _ ≤ _; omega)
  have e1 : copied (vp_cell c0 (n0, .inr (.inr (.inr (.inr f))))) (vp_cell c1 (n1, .inr (.inr (.inr (.inr g))))) (nI sp) (nI dp) (nI n) = vp_cell c1 (n1, .inr (.inr (.inr (.inr (va_cpy f g sp dp n))))) := by
    have h := va_copied (fun z => va_rf z) c0 c1 (n0 := n0) (n1 := n1) (sp := (nI sp).toNatClampNeg) (dp := (nI dp).toNatClampNeg) (n := (nI n).toNatClampNeg) f g (by rw [csp, cn]; exact h4)
    rw [csp, cdp, cn] at h
    have h9 : copied (vp_cell c0 (n0, .inr (.inr (.inr (.inr f))))) (vp_cell c1 (n1, .inr (.inr (.inr (.inr g))))) (nI sp) (nI dp) (nI n) = (arrV c1 n1 (fun j => va_rf (g j))).storeRun (nI dp).toNatClampNeg ((arrV c0 n0 (fun j => va_rf (f j))).stretch (nI sp).toNatClampNeg (nI n).toNatClampNeg) := rfl
    rw [h9, csp, cdp, cn]
    exact h
  rw [e1] at X' step
  have hl : fr_ad b r1 < H.size := (Array.getElem?_eq_some_iff.mp hc1).1
  have hheap : ((T.setVm vm').setCell (fr_ad b r1) (vp_cell c1 (n1, .inr (.inr (.inr (.inr (va_cpy f g sp dp n))))))).heap = H.setIfInBounds (fr_ad b r1) (vp_cell c1 (n1, .inr (.inr (.inr (.inr (va_cpy f g sp dp n)))))) := by rw [← hT]; rfl
  have oq : ∀ q : Nat, q ≠ fr_ad b r1 → (H.setIfInBounds (fr_ad b r1) (vp_cell c1 (n1, .inr (.inr (.inr (.inr (va_cpy f g sp dp n)))))))[q]? = H[q]? := fun q hq => by simp [Array.getElem?_setIfInBounds, Ne.symm hq]
  obtain ⟨t, a1, b1⟩ := kk _ _ (hE.set he1 (show (H.setIfInBounds (fr_ad b r1) _)[fr_ad b r1]? = some _ by simp [Array.getElem?_setIfInBounds, hl]) (by simp) oq) ⟨by simp; exact hS.1, fun q g1 g2 => by
      rw [oq q (fun e => g2 (by rw [e]; exact hz1))]
      exact hS.2.1 q g1 g2, fun q hq => by
      rcases List.mem_append.mp hq with h | h
      · exact hS.2.2 q h
      · obtain ⟨z9, -, hz9⟩ := List.mem_map.mp h
        rw [← hz9]
        exact hz1⟩ _ hheap X'
  exact ⟨t, step t a1, b1⟩
end FRCP
