theorem newLen {n : Nat} (h2 : 2 ≤ n) (hn : n ≤ 100000) : nI n + (if nI 1 < nI (n / 2) then nI (n / 2) else nI 1) = nI (n + n / 2) := by
  by_cases c : 1 < n / 2
  · rw [if_pos (nI_lt c (by omega))]
    exact nI_add n (n / 2)
  · rw [if_neg (nI_nlt (by omega) (by decide))]
    have hd : n / 2 = 1 := by omega
    rw [hd]
    exact nI_add n 1
theorem shr1 {n : Nat} (hn : n < 2 ^ 31) : nI n >>> ((1 : Int32) &&& 31) = nI (n / 2) := by
  have k := pk_shrN (n := n) hn ((1 : Int32) &&& 31) 1 (by decide)
  rw [Nat.pow_one] at k
  exact k
set_option maxHeartbeats 4000000 in
set_option maxRecDepth 100000 in
theorem c_AS_newLength (l : Launch) {D : va_G} {z : Nat} {b : Nat → Nat} {C : fr_C} {H9 : Heap} (h9 : fr_W D hCl z b C H9) {cI cZ cJ cP cO : ClassId} (n : Nat) (h2 : 2 ≤ n) (hn : n ≤ 100000) : Met l y_AS_newLength w_AS_newLength ({ frames := 1, cells := 0, slots := 0, locals := 30 }) (va_Pc [.int (nI n), .int (nI 1), .int (nI (n / 2))] (fr_G D hCl (hTy cI cZ cJ cP cO) z b C)) (va_Qi (fun (r : Int32) (u : Unit) => r = nI (n + n / 2)) (fun u t => fr_G D hCl (hTy cI cZ cJ cP cO) z ((fun _ => b) u) ((fun _ => C) u) t) (fr_A z)) 0 0 (fr_A z) := by
  refine Met.ofW (cc := b_AS_newLength) (maxL := 4) (ret := (some .int)) (by decide) rfl ?_
  intro p e s m args below meth c s₁ B hml hv
  obtain ⟨rfl, hE, hK⟩ := hv
  have hx := B.exec
  have hb := B.bytes
  have hr := B.returns
  have hts := atoms_spec (ws := w_AS_newLength) B.pre
  have hT : ∀ w ∈ hw_tbl, w.before _ s = true := fun w h => hts w (List.mem_cons_of_mem _ h)
  have hown : s.vm.findClass "jdk/internal/util/ArraysSupport" = some m.cls := findClass_of_methodNamed B.named
  have hlocks := B.notSynchronized
  have hS : va_S (fr_A z) s.heap s.heap [] := va_S.rf
  have hl := lv_entry ([.int (nI n), .int (nI 1), .int (nI (n / 2))]) (n := 4) (Nat.le_of_ble_eq_true rfl)
  rw [lg_entry_eq]
  generalize (lg_sl ([.int (nI n), .int (nI 1), .int (nI (n / 2))]) ++ List.replicate (4 - (lg_sl ([.int (nI n), .int (nI 1), .int (nI (n / 2))])).length) Slot.unset).toArray = ls at hl ⊢
  have hl : lv_has ls 4 [(0, .int (nI n)), (1, .int (nI 1)), (2, .int (nI (n / 2)))] := hl
  refine lv_iload_n hx hb d_AS_newLength_0 rfl (lv_at hl 0 rfl) ?_
  refine lv_iload_n hx hb d_AS_newLength_1 rfl (lv_at hl 1 rfl) ?_
  refine lv_iload_n hx hb d_AS_newLength_2 rfl (lv_at hl 2 rfl) ?_
  refine va_mmax hx hb (hml.trans hl.1.symm) hown (hT _ kw_314) (hT _ kw_84) (hT _ kw_25) (hT _ kw_85) (Nat.le_of_ble_eq_true rfl) (Nat.le_of_ble_eq_true rfl) (Nat.le_of_ble_eq_true rfl) (Nat.le_of_ble_eq_true rfl) d_AS_newLength_3 ?_
  refine lv_iadd hx hb d_AS_newLength_6 ?_
  refine lv_topi (fun y_1 ey_1 => ?_)
  obtain rfl : y_1 = nI (n + n / 2) := ey_1.trans (newLen h2 hn)
  refine lv_istore_n (lv' := [(3, .int (nI (n + n / 2))), (0, .int (nI n)), (1, .int (nI 1)), (2, .int (nI (n / 2)))]) hx hb d_AS_newLength_7 rfl hl (by decide) rfl (fun ls hl => ?_)
  refine lv_iconst (v := 0) hx hb d_AS_newLength_8 (by decide) ?_
  refine lv_iload_n hx hb d_AS_newLength_9 rfl (lv_at hl 0 rfl) ?_
  refine lv_icmp_ge (tgt := 21) hx hb d_AS_newLength_10 (by decide) (fun c_2 => ?_) (fun c_2 => ?_)
  · skip
    exact absurd c_2 (fun y => nI_nle (n := n + n / 2) (by omega) (by omega) y)
  · skip
    refine lv_iload_n hx hb d_AS_newLength_13 rfl (lv_at hl 0 rfl) ?_
    refine lv_ldc (v := 2147483639) hx hb hown (hT _ kw_315) d_AS_newLength_14 ?_
    refine lv_icmp_gt (tgt := 21) hx hb d_AS_newLength_16 (by decide) (fun c_3 => ?_) (fun c_3 => ?_)
    · skip
      exact absurd c_3 (fun y => nI_nlt (a := 2147483639) (b := n + n / 2) (by omega) (by decide) y)
    · skip
      refine lv_iload_n hx hb d_AS_newLength_19 rfl (lv_at hl 0 rfl) ?_
      refine W.widen (k := 0) (n := 0) (Nat.le_of_ble_eq_true rfl) (Nat.le_of_ble_eq_true rfl) ?_
      exact W.iret (v := nI (n + n / 2)) hx hb hr (fun t9 ht9 hW9 => ⟨⟨nI (n + n / 2), (), rfl, rfl, ⟨by rw [ht9]; exact hE, va_K.moved hW9.alike hK⟩⟩, hS.F ht9⟩) hS.2.2 d_AS_newLength_20
set_option maxHeartbeats 4000000 in
set_option maxRecDepth 100000 in
theorem c_Ar_copyOfC (l : Launch) {D : va_G} {z : Nat} {b : Nat → Nat} {C : fr_C} {H9 : Heap} (h9 : fr_W D hCl z b C H9) {cI cZ cJ cP cO : ClassId} {e0 mi : Nat} {dt n0 : Nat} {f : Nat → Option Nat} (hd : C (1, dt) = some (.inl (cO, n0, .inr (.inr (.inr (.inr f)))))) (h2 : 2 ≤ n0) (hn : n0 ≤ 1500) (hel : ∀ i y, i < n0 → f i = some y → ∃ fs, C (1, y) = some (.inr (3, fs))) : Met l y_Ar_copyOfC w_Ar_copyOfC ({ frames := 1, cells := 1, slots := 2250, locals := 40 }) (va_Pc [.ref dt, .int (nI (n0 + n0 / 2)), .ref mi] (fr_GX e0 mi D hCl (hTy cI cZ cJ cP cO) z b C)) (va_Qq (fun (r : Option Nat) (u : Nat) => r = some u) (fun u t => fr_G D hCl (hTy cI cZ cJ cP cO) z ((fun u => fr_ub b 27 u) u) ((fun u => fr_up C (0, 27) (.inl (cO, n0 + n0 / 2, .inr (.inr (.inr (.inr (va_cpy f (fun _ => none) 0 0 n0))))))) u) t) (fr_A z)) 1 2250 (fr_A z) := by
  refine Met.ofW (cc := b_Ar_copyOfC) (maxL := 4) (ret := (some (.array (.object "java/lang/Object")))) (by decide) rfl ?_
  intro p e s m args below meth c s₁ B hml hv
  obtain ⟨rfl, ⟨hE, hK⟩, hX⟩ := hv
  have hx := B.exec
  have hb := B.bytes
  have hr := B.returns
  have hts := atoms_spec (ws := w_Ar_copyOfC) B.pre
  have hT : ∀ w ∈ hw_tbl, w.before _ s = true := fun w h => hts w (List.mem_cons_of_mem _ h)
  have hown : s.vm.findClass "java/util/Arrays" = some m.cls := findClass_of_methodNamed B.named
  have hlocks := B.notSynchronized
  have hS : va_S (fr_A z) s.heap s.heap [] := va_S.rf
  have hl := lv_entry ([.ref dt, .int (nI (n0 + n0 / 2)), .ref mi]) (n := 4) (Nat.le_of_ble_eq_true rfl)
  rw [lg_entry_eq]
  generalize (lg_sl ([.ref dt, .int (nI (n0 + n0 / 2)), .ref mi]) ++ List.replicate (4 - (lg_sl ([.ref dt, .int (nI (n0 + n0 / 2)), .ref mi])).length) Slot.unset).toArray = ls at hl ⊢
  have hl : lv_has ls 4 [(0, .ref dt), (1, .int (nI (n0 + n0 / 2))), (2, .ref mi)] := hl
  refine lv_aload_n hx hb d_Ar_copyOfC_0 rfl (lv_at hl 2 rfl) ?_
  refine va_ldcM hx hb hown (hT _ kw_336) hX.2.2.2.2.2.2.1 d_Ar_copyOfC_1 ?_
  refine lv_acmp_ne (rx := (some mi)) (ry := (some mi)) (tgt := 13) hx hb d_Ar_copyOfC_3 (by decide) (fun c_1 => ?_) (fun c_1 => ?_)
  · skip
    exact absurd c_1 (fun q9 => q9 rfl)
  · skip
    refine lv_iload_n hx hb d_Ar_copyOfC_6 rfl (lv_at hl 1 rfl) ?_
    refine fr_newq (Cn := "java/lang/Object") hx hb hown (hT _ kw_338) (va_AO.use hX.2.2.1) hK hE hS 27 4 rfl (n0 + n0 / 2) (rfl) (by omega) (by omega) (Nat.le_of_ble_eq_true rfl) (show 0 + (n0 + n0 / 2) ≤ 2250 by omega) d_Ar_copyOfC_7 (fun q27 H nq27 hE hS => ?_)
    refine W.widen (k := 1) (n := 2250) (Nat.le_of_ble_eq_true rfl) (by omega) ?_
    refine lv_goto (tgt := 24) hx hb d_Ar_copyOfC_10 (by decide) ?_
    refine lv_astore_n (lv' := [(3, .ref q27), (0, .ref dt), (1, .int (nI (n0 + n0 / 2))), (2, .ref mi)]) hx hb d_Ar_copyOfC_24 rfl hl (by decide) rfl (fun ls hl => ?_)
    refine lv_aload_n hx hb d_Ar_copyOfC_25 rfl (lv_at hl 1 rfl) ?_
    refine lv_iconst (v := 0) hx hb d_Ar_copyOfC_26 (by decide) ?_
    refine lv_aload_n hx hb d_Ar_copyOfC_27 rfl (lv_at hl 0 rfl) ?_
    refine lv_iconst (v := 0) hx hb d_Ar_copyOfC_28 (by decide) ?_
    refine lv_aload_n hx hb d_Ar_copyOfC_29 rfl (lv_at hl 1 rfl) ?_
    refine fr_alen hx hb hK hE (1, dt) 4 rfl hd rfl d_Ar_copyOfC_30 ?_
    refine lv_iload_n hx hb d_Ar_copyOfC_31 rfl (lv_at hl 2 rfl) ?_
    refine va_mmin hx hb (hml.trans hl.1.symm) hown (hT _ kw_205) (hT _ kw_81) (hT _ kw_25) (hT _ kw_82) (Nat.le_of_ble_eq_true rfl) (Nat.le_of_ble_eq_true rfl) (Nat.le_of_ble_eq_true rfl) (Nat.le_of_ble_eq_true rfl) d_Ar_copyOfC_32 ?_
    refine lv_topi (fun y_2 ey_2 => ?_)
    obtain rfl : y_2 = nI n0 := ey_2.trans (if_neg (nI_nlt (a := n0 + n0 / 2) (b := n0) (by omega) (by omega)))
    refine fr_copyq hx hb (hml.trans hl.1.symm) hown (hT _ kw_206) (hT _ kw_208) (hT _ kw_207) (hT _ kw_29) hK hE hS (1, dt) (0, 27) 4 4 rfl rfl hd rfl rfl rfl 0 0 n0 rfl rfl rfl (by omega) (by omega) (by omega) (by omega) (fun i hi y hy => by rw [Nat.zero_add] at hy; obtain ⟨fs, hfs⟩ := hel i y hi hy; exact fr_any (ci := 3) hK hE (1, y) rfl hfs rfl hX.2.2.2.2.1) (Nat.le_of_ble_eq_true rfl) (by decide) d_Ar_copyOfC_35 (fun H locs hE hS => ?_)
    rw [fr_up_up] at hE
    refine lv_aload_n hx hb d_Ar_copyOfC_38 rfl (lv_at hl 0 rfl) ?_
    refine W.widen (k := 1) (n := 2250) (Nat.le_of_ble_eq_true rfl) (Nat.le_of_ble_eq_true rfl) ?_
    exact W.aret (v := .ref q27) hx hb hr (Or.inr ⟨_, rfl⟩) (va_rf_or (some q27)) (fun t9 ht9 hW9 => ⟨⟨(some q27), q27, rfl, rfl, ⟨by rw [ht9]; exact hE, va_K.moved hW9.alike hK⟩⟩, hS.F ht9⟩) hS.2.2 d_Ar_copyOfC_39
set_option maxHeartbeats 4000000 in
set_option maxRecDepth 100000 in
theorem c_Ar_copyOfO (l : Launch) {D : va_G} {z : Nat} {b : Nat → Nat} {C : fr_C} {H9 : Heap} (h9 : fr_W D hCl z b C H9) {cI cZ cJ cP cO : ClassId} {e0 mi : Nat} {dt n0 : Nat} {f : Nat → Option Nat} (hd : C (1, dt) = some (.inl (cO, n0, .inr (.inr (.inr (.inr f)))))) (h2 : 2 ≤ n0) (hn : n0 ≤ 1500) (hel : ∀ i y, i < n0 → f i = some y → ∃ fs, C (1, y) = some (.inr (3, fs))) : Met l y_Ar_copyOfO w_Ar_copyOfO ({ frames := 2, cells := 1, slots := 2250, locals := 63 }) (va_Pc [.ref dt, .int (nI (n0 + n0 / 2))] (fr_GX e0 mi D hCl (hTy cI cZ cJ cP cO) z b C)) (va_Qq (fun (r : Option Nat) (u : Nat) => r = some u) (fun u t => fr_G D hCl (hTy cI cZ cJ cP cO) z ((fun u => fr_ub b 27 u) u) ((fun u => fr_up C (0, 27) (.inl (cO, n0 + n0 / 2, .inr (.inr (.inr (.inr (va_cpy f (fun _ => none) 0 0 n0))))))) u) t) (fr_A z)) 1 2250 (fr_A z) := by
  refine Met.ofW (cc := b_Ar_copyOfO) (maxL := 2) (ret := (some (.array (.object "java/lang/Object")))) (by decide) rfl ?_
  intro p e s m args below meth c s₁ B hml hv
  obtain ⟨rfl, ⟨hE, hK⟩, hX⟩ := hv
  have hx := B.exec
  have hb := B.bytes
  have hr := B.returns
  have hts := atoms_spec (ws := w_Ar_copyOfO) B.pre
  have hT : ∀ w ∈ hw_tbl, w.before _ s = true := fun w h => hts w (List.mem_cons_of_mem _ h)
  have hown : s.vm.findClass "java/util/Arrays" = some m.cls := findClass_of_methodNamed B.named
  have hlocks := B.notSynchronized
  have hS : va_S (fr_A z) s.heap s.heap [] := va_S.rf
  have hl := lv_entry ([.ref dt, .int (nI (n0 + n0 / 2))]) (n := 2) (Nat.le_of_ble_eq_true rfl)
  rw [lg_entry_eq]
  generalize (lg_sl ([.ref dt, .int (nI (n0 + n0 / 2))]) ++ List.replicate (2 - (lg_sl ([.ref dt, .int (nI (n0 + n0 / 2))])).length) Slot.unset).toArray = ls at hl ⊢
  have hl : lv_has ls 2 [(0, .ref dt), (1, .int (nI (n0 + n0 / 2)))] := hl
  refine lv_aload_n hx hb d_Ar_copyOfO_0 rfl (lv_at hl 0 rfl) ?_
  refine lv_iload_n hx hb d_Ar_copyOfO_1 rfl (lv_at hl 1 rfl) ?_
  refine lv_aload_n hx hb d_Ar_copyOfO_2 rfl (lv_at hl 0 rfl) ?_
  refine va_getC hx hb (hml.trans hl.1.symm) hown (hT _ kw_322) (va_Dc.use hX.2.2.2.2.2.2.2) (hT _ kw_665) (hT _ kw_323) (hT _ kw_332) hX.2.2.2.2.2.2.1 ⟨_, (hE.2.1 (1, dt) _ hd).1, rfl, va_nmO (hK.2 4 _ rfl).2 rfl⟩ (Nat.le_of_ble_eq_true rfl) (Nat.le_of_ble_eq_true rfl) d_Ar_copyOfO_3 ?_
  refine fr_callq (va_runS (As := [.ref dt, .int (nI (n0 + n0 / 2)), .ref mi]) (rest := []) ⟨hx, hb, hml, hown, hts⟩ (c_Ar_copyOfC l hE hd h2 hn hel) (va_cwS 3 hts (hw_goodS kw_333 kw_334 kw_28 kw_335) rfl rfl rfl (by decide +kernel) ⟨Nat.le_of_ble_eq_true rfl, Nat.le_of_ble_eq_true rfl⟩) ⟨fr_blindX, fr_preX hE hK hX hS⟩ rfl rfl hl.1 rfl (lv_room (Nat.le_of_ble_eq_true rfl)) d_Ar_copyOfO_6 ⟨Nat.le_of_ble_eq_true rfl, Nat.le_of_ble_eq_true rfl⟩) hS (fun r_1 u_1 H locs w_1 hE hS => ?_)
  obtain rfl := w_1
  refine W.widen (k := 1) (n := 2250) (Nat.le_of_ble_eq_true rfl) (Nat.le_of_ble_eq_true rfl) ?_
  exact W.aret (v := .ref u_1) hx hb hr (Or.inr ⟨_, rfl⟩) (va_rf_or (some u_1)) (fun t9 ht9 hW9 => ⟨⟨(some u_1), u_1, rfl, rfl, ⟨by rw [ht9]; exact hE, va_K.moved hW9.alike hK⟩⟩, hS.F ht9⟩) hS.2.2 d_Ar_copyOfO_9
set_option maxHeartbeats 4000000 in
set_option maxRecDepth 100000 in
theorem c_A_grow1 (l : Launch) {D : va_G} {z : Nat} {b : Nat → Nat} {C : fr_C} {H9 : Heap} (h9 : fr_W D hCl z b C H9) {cI cZ cJ cP cO : ClassId} {e0 mi : Nat} {dt n0 : Nat} {f : Nat → Option Nat} (hd : C (1, dt) = some (.inl (cO, n0, .inr (.inr (.inr (.inr f)))))) (h2 : 2 ≤ n0) (hn : n0 ≤ 1500) (hel : ∀ i y, i < n0 → f i = some y → ∃ fs, C (1, y) = some (.inr (3, fs))) {mc : Int32} {tk : Nat} (h7 : C (0, 7) = some (.inr (4, [.ref dt, .int (nI tk), .int mc]))) (htk : tk = n0) : Met l y_A_grow1 w_A_grow1 ({ frames := 3, cells := 1, slots := 2250, locals := 84 }) (va_Pc [.ref (b 7), .int (nI (n0 + 1))] (fr_GX e0 mi D hCl (hTy cI cZ cJ cP cO) z b C)) (va_Qq (fun (r : Option Nat) (u : Nat) => r = some u) (fun u t => fr_G D hCl (hTy cI cZ cJ cP cO) z ((fun u => fr_ub b 27 u) u) ((fun u => fr_up (fr_up C (0, 27) (.inl (cO, n0 + n0 / 2, .inr (.inr (.inr (.inr (va_cpy f (fun _ => none) 0 0 n0))))))) (0, 7) (.inr (4, [.ref u, .int (nI tk), .int mc]))) u) t) (fr_A z)) 1 2250 (fr_A z) := by
  refine Met.ofW (cc := b_A_grow1) (maxL := 4) (ret := (some (.array (.object "java/lang/Object")))) (by decide) rfl ?_
  intro p e s m args below meth c s₁ B hml hv
  obtain ⟨rfl, ⟨hE, hK⟩, hX⟩ := hv
  have hx := B.exec
  have hb := B.bytes
  have hr := B.returns
  have hts := atoms_spec (ws := w_A_grow1) B.pre
  have hT : ∀ w ∈ hw_tbl, w.before _ s = true := fun w h => hts w (List.mem_cons_of_mem _ h)
  have hown : s.vm.findClass "java/util/ArrayList" = some m.cls := findClass_of_methodNamed B.named
  have hlocks := B.notSynchronized
  have hS : va_S (fr_A z) s.heap s.heap [] := va_S.rf
  have hl := lv_entry ([.ref (b 7), .int (nI (n0 + 1))]) (n := 4) (Nat.le_of_ble_eq_true rfl)
  rw [lg_entry_eq]
  generalize (lg_sl ([.ref (b 7), .int (nI (n0 + 1))]) ++ List.replicate (4 - (lg_sl ([.ref (b 7), .int (nI (n0 + 1))])).length) Slot.unset).toArray = ls at hl ⊢
  have hl : lv_has ls 4 [(0, .ref (b 7)), (1, .int (nI (n0 + 1)))] := hl
  refine lv_aload_n hx hb d_A_grow1_0 rfl (lv_at hl 0 rfl) ?_
  refine fr_get (ci := 4) (Cn := hR_4) (T := hF_4) (N := 3) hx hb hT hi_4 hown hK hE (0, 7) rfl h7 rfl 0 (by decide) (hT _ kw_61) (fun _ h9 => h9) rfl d_A_grow1_1 ?_
  refine fr_alen hx hb hK hE (1, dt) 4 rfl hd rfl d_A_grow1_4 ?_
  refine lv_istore_n (lv' := [(2, .int (nI n0)), (0, .ref (b 7)), (1, .int (nI (n0 + 1)))]) hx hb d_A_grow1_5 rfl hl (by decide) rfl (fun ls hl => ?_)
  refine lv_iload_n hx hb d_A_grow1_6 rfl (lv_at hl 0 rfl) ?_
  refine lv_if_gt (tgt := 20) hx hb d_A_grow1_7 (by decide) (fun c_1 => ?_) (fun c_1 => ?_)
  · skip
    refine lv_iload_n hx hb d_A_grow1_20 rfl (lv_at hl 0 rfl) ?_
    refine lv_iload_n hx hb d_A_grow1_21 rfl (lv_at hl 2 rfl) ?_
    refine lv_iload_n hx hb d_A_grow1_22 rfl (lv_at hl 0 rfl) ?_
    refine lv_isub hx hb d_A_grow1_23 ?_
    refine lv_topi (fun y_2 ey_2 => ?_)
    obtain rfl : y_2 = nI 1 := ey_2.trans (by rw [pk_sub (by omega)]; exact congrArg nI (by omega))
    refine lv_iload_n hx hb d_A_grow1_24 rfl (lv_at hl 0 rfl) ?_
    refine lv_iconst (v := 1) hx hb d_A_grow1_25 (by decide) ?_
    refine lv_ishr hx hb d_A_grow1_26 ?_
    refine lv_topi (fun y_3 ey_3 => ?_)
    obtain rfl : y_3 = nI (n0 / 2) := ey_3.trans (shr1 (by omega))
    refine fr_calli (va_runS (As := [.int (nI n0), .int (nI 1), .int (nI (n0 / 2))]) (rest := []) ⟨hx, hb, hml, hown, hts⟩ (c_AS_newLength l hE n0 h2 (by omega)) (va_cwS 3 hts (hw_goodS kw_311 kw_312 kw_32 kw_313) rfl rfl rfl (by decide +kernel) ⟨Nat.le_of_ble_eq_true rfl, Nat.le_of_ble_eq_true rfl⟩) ⟨fr_blind, fr_pre hE hK⟩ rfl rfl hl.1 rfl (lv_room (Nat.le_of_ble_eq_true rfl)) d_A_grow1_27 ⟨Nat.le_of_ble_eq_true rfl, Nat.le_of_ble_eq_true rfl⟩) hS (fun r_4 u_4 H locs w_4 hE hS => ?_)
    obtain rfl := w_4
    refine lv_istore_n (lv' := [(3, .int (nI (n0 + n0 / 2))), (2, .int (nI n0)), (0, .ref (b 7)), (1, .int (nI (n0 + 1)))]) hx hb d_A_grow1_30 rfl hl (by decide) rfl (fun ls hl => ?_)
    refine lv_aload_n hx hb d_A_grow1_31 rfl (lv_at hl 2 rfl) ?_
    refine lv_aload_n hx hb d_A_grow1_32 rfl (lv_at hl 2 rfl) ?_
    refine fr_get (ci := 4) (Cn := hR_4) (T := hF_4) (N := 3) hx hb hT hi_4 hown hK hE (0, 7) rfl h7 rfl 0 (by decide) (hT _ kw_61) (fun _ h9 => h9) rfl d_A_grow1_33 ?_
    refine lv_iload_n hx hb d_A_grow1_36 rfl (lv_at hl 0 rfl) ?_
    refine fr_callq (va_runS (As := [.ref dt, .int (nI (n0 + n0 / 2))]) (rest := [.ref (b 7)]) ⟨hx, hb, hml, hown, hts⟩ (c_Ar_copyOfO l hE hd h2 hn hel) (va_cwS 2 hts (hw_goodS kw_319 kw_320 kw_28 kw_321) rfl rfl rfl (by decide +kernel) ⟨Nat.le_of_ble_eq_true rfl, Nat.le_of_ble_eq_true rfl⟩) ⟨fr_blindX, fr_preX hE hK hX hS⟩ rfl rfl hl.1 rfl (lv_room (Nat.le_of_ble_eq_true rfl)) d_A_grow1_37 ⟨Nat.le_of_ble_eq_true rfl, Nat.le_of_ble_eq_true rfl⟩) hS (fun r_5 u_5 H locs w_5 hE hS => ?_)
    obtain rfl := w_5
    refine lv_dup_x1 hx hb d_A_grow1_40 rfl rfl ?_
    refine fr_put (ci := 4) (v := .ref u_5) (ty := (.array (.object "java/lang/Object"))) (Cn := hR_4) (T := hF_4) (N := 3) hx hb hT hi_4 hy_4 ho_4 hn_4 hown hK hE hS (0, 7) rfl h7 rfl 0 (by decide) (hT _ kw_61) (fun _ h9 => h9) rfl (by decide +kernel) rfl rfl (Nat.le_of_ble_eq_true rfl) d_A_grow1_41 (fun H locs hE hS => ?_)
    refine W.widen (k := 1) (n := 2250) (Nat.le_of_ble_eq_true rfl) (Nat.le_of_ble_eq_true rfl) ?_
    exact W.aret (v := .ref u_5) hx hb hr (Or.inr ⟨_, rfl⟩) (va_rf_or (some u_5)) (fun t9 ht9 hW9 => ⟨⟨(some u_5), u_5, rfl, rfl, ⟨by rw [ht9]; exact hE, va_K.moved hW9.alike hK⟩⟩, hS.F ht9⟩) hS.2.2 d_A_grow1_44
  · skip
    exact absurd c_1 (fun q9 => q9 (nI_lt (a := 0) (by omega) (by omega)))
set_option maxHeartbeats 4000000 in
set_option maxRecDepth 100000 in
theorem c_A_grow1_0 (l : Launch) {D : va_G} {z : Nat} {b : Nat → Nat} {C : fr_C} {H9 : Heap} (h9 : fr_W D hCl z b C H9) {cI cZ cJ cP cO : ClassId} {e0 mi : Nat} {mc : Int32} (h7 : C (0, 7) = some (.inr (4, [.ref e0, .int (nI 0), .int mc]))) : Met l y_A_grow1 w_A_grow1 ({ frames := 3, cells := 1, slots := 2250, locals := 84 }) (va_Pc [.ref (b 7), .int (nI 1)] (fr_GX e0 mi D hCl (hTy cI cZ cJ cP cO) z b C)) (va_Qq (fun (r : Option Nat) (u : Nat) => r = some u) (fun u t => fr_G D hCl (hTy cI cZ cJ cP cO) z ((fun u => fr_ub b 27 u) u) ((fun u => fr_up (fr_up C (0, 27) (.inl (cO, 10, .inr (.inr (.inr (.inr (fun _ => none))))))) (0, 7) (.inr (4, [.ref u, .int (nI 0), .int mc]))) u) t) (fr_A z)) 1 2250 (fr_A z) := by
  refine Met.ofW (cc := b_A_grow1) (maxL := 4) (ret := (some (.array (.object "java/lang/Object")))) (by decide) rfl ?_
  intro p e s m args below meth c s₁ B hml hv
  obtain ⟨rfl, ⟨hE, hK⟩, hX⟩ := hv
  have hx := B.exec
  have hb := B.bytes
  have hr := B.returns
  have hts := atoms_spec (ws := w_A_grow1) B.pre
  have hT : ∀ w ∈ hw_tbl, w.before _ s = true := fun w h => hts w (List.mem_cons_of_mem _ h)
  have hown : s.vm.findClass "java/util/ArrayList" = some m.cls := findClass_of_methodNamed B.named
  have hlocks := B.notSynchronized
  have hS : va_S (fr_A z) s.heap s.heap [] := va_S.rf
  have hl := lv_entry ([.ref (b 7), .int (nI 1)]) (n := 4) (Nat.le_of_ble_eq_true rfl)
  rw [lg_entry_eq]
  generalize (lg_sl ([.ref (b 7), .int (nI 1)]) ++ List.replicate (4 - (lg_sl ([.ref (b 7), .int (nI 1)])).length) Slot.unset).toArray = ls at hl ⊢
  have hl : lv_has ls 4 [(0, .ref (b 7)), (1, .int (nI 1))] := hl
  refine lv_aload_n hx hb d_A_grow1_0 rfl (lv_at hl 0 rfl) ?_
  refine fr_get (ci := 4) (Cn := hR_4) (T := hF_4) (N := 3) hx hb hT hi_4 hown hK hE (0, 7) rfl h7 rfl 0 (by decide) (hT _ kw_61) (fun _ h9 => h9) rfl d_A_grow1_1 ?_
  refine va_tlen (v := 0) hx hb hX.2.1 hS rfl d_A_grow1_4 ?_
  refine lv_istore_n (lv' := [(2, .int 0), (0, .ref (b 7)), (1, .int (nI 1))]) hx hb d_A_grow1_5 rfl hl (by decide) rfl (fun ls hl => ?_)
  refine lv_iload_n hx hb d_A_grow1_6 rfl (lv_at hl 0 rfl) ?_
  refine lv_if_gt (tgt := 20) hx hb d_A_grow1_7 (by decide) (fun c_1 => ?_) (fun c_1 => ?_)
  · skip
    exact absurd c_1 (by decide)
  · skip
    refine lv_aload_n hx hb d_A_grow1_10 rfl (lv_at hl 1 rfl) ?_
    refine fr_get (ci := 4) (Cn := hR_4) (T := hF_4) (N := 3) hx hb hT hi_4 hown hK hE (0, 7) rfl h7 rfl 0 (by decide) (hT _ kw_61) (fun _ h9 => h9) rfl d_A_grow1_11 ?_
    refine va_gets hx hb hX.1 hS hown (hT _ kw_59) (fun _ h9 => h9) d_A_grow1_14 ?_
    refine lv_acmp_eq (rx := (some e0)) (ry := (some e0)) (tgt := 45) hx hb d_A_grow1_17 (by decide) (fun c_2 => ?_) (fun c_2 => ?_)
    · skip
      refine lv_aload_n hx hb d_A_grow1_45 rfl (lv_at hl 1 rfl) ?_
      refine lv_bipush (v := 10) hx hb d_A_grow1_46 (by decide) ?_
      refine lv_iload_n hx hb d_A_grow1_48 rfl (lv_at hl 2 rfl) ?_
      refine va_mmax hx hb (hml.trans hl.1.symm) hown (hT _ kw_339) (hT _ kw_84) (hT _ kw_25) (hT _ kw_85) (Nat.le_of_ble_eq_true rfl) (Nat.le_of_ble_eq_true rfl) (Nat.le_of_ble_eq_true rfl) (Nat.le_of_ble_eq_true rfl) d_A_grow1_49 ?_
      refine lv_topi (fun y_3 ey_3 => ?_)
      obtain rfl : y_3 = nI 10 := ey_3.trans (by decide)
      refine fr_newq (Cn := "java/lang/Object") hx hb hown (hT _ kw_340) (va_AO.use hX.2.2.1) hK hE hS 27 4 rfl 10 (rfl) (by decide) (by decide) (Nat.le_of_ble_eq_true rfl) (Nat.le_of_ble_eq_true rfl) d_A_grow1_52 (fun q27 H nq27 hE hS => ?_)
      refine W.widen (k := 1) (n := 2250) (Nat.le_of_ble_eq_true rfl) (by omega) ?_
      refine lv_dup_x1 hx hb d_A_grow1_55 rfl rfl ?_
      refine fr_put (ci := 4) (v := .ref q27) (ty := (.array (.object "java/lang/Object"))) (Cn := hR_4) (T := hF_4) (N := 3) hx hb hT hi_4 hy_4 ho_4 hn_4 hown hK hE hS (0, 7) rfl h7 rfl 0 (by decide) (hT _ kw_61) (fun _ h9 => h9) rfl (by decide +kernel) rfl rfl (Nat.le_of_ble_eq_true rfl) d_A_grow1_56 (fun H locs hE hS => ?_)
      refine W.widen (k := 1) (n := 2250) (Nat.le_of_ble_eq_true rfl) (Nat.le_of_ble_eq_true rfl) ?_
      exact W.aret (v := .ref q27) hx hb hr (Or.inr ⟨_, rfl⟩) (va_rf_or (some q27)) (fun t9 ht9 hW9 => ⟨⟨(some q27), q27, rfl, rfl, ⟨by rw [ht9]; exact hE, va_K.moved hW9.alike hK⟩⟩, hS.F ht9⟩) hS.2.2 d_A_grow1_59
    · skip
      exact absurd c_2 (fun q9 => q9 rfl)
set_option maxHeartbeats 4000000 in
set_option maxRecDepth 100000 in
theorem c_A_grow (l : Launch) {D : va_G} {z : Nat} {b : Nat → Nat} {C : fr_C} {H9 : Heap} (h9 : fr_W D hCl z b C H9) {cI cZ cJ cP cO : ClassId} {e0 mi : Nat} {dt n0 : Nat} {f : Nat → Option Nat} (hd : C (1, dt) = some (.inl (cO, n0, .inr (.inr (.inr (.inr f)))))) (h2 : 2 ≤ n0) (hn : n0 ≤ 1500) (hel : ∀ i y, i < n0 → f i = some y → ∃ fs, C (1, y) = some (.inr (3, fs))) {mc : Int32} {tk : Nat} (h7 : C (0, 7) = some (.inr (4, [.ref dt, .int (nI tk), .int mc]))) (htk : tk = n0) : Met l y_A_grow w_A_grow ({ frames := 4, cells := 1, slots := 2250, locals := 107 }) (va_Pc [.ref (b 7)] (fr_GX e0 mi D hCl (hTy cI cZ cJ cP cO) z b C)) (va_Qq (fun (r : Option Nat) (u : Nat) => r = some u) (fun u t => fr_G D hCl (hTy cI cZ cJ cP cO) z ((fun u => fr_ub b 27 u) u) ((fun u => fr_up (fr_up C (0, 27) (.inl (cO, n0 + n0 / 2, .inr (.inr (.inr (.inr (va_cpy f (fun _ => none) 0 0 n0))))))) (0, 7) (.inr (4, [.ref u, .int (nI tk), .int mc]))) u) t) (fr_A z)) 1 2250 (fr_A z) := by
  refine Met.ofW (cc := b_A_grow) (maxL := 1) (ret := (some (.array (.object "java/lang/Object")))) (by decide) rfl ?_
  intro p e s m args below meth c s₁ B hml hv
  obtain ⟨rfl, ⟨hE, hK⟩, hX⟩ := hv
  have hx := B.exec
  have hb := B.bytes
  have hr := B.returns
  have hts := atoms_spec (ws := w_A_grow) B.pre
  have hT : ∀ w ∈ hw_tbl, w.before _ s = true := fun w h => hts w (List.mem_cons_of_mem _ h)
  have hown : s.vm.findClass "java/util/ArrayList" = some m.cls := findClass_of_methodNamed B.named
  have hlocks := B.notSynchronized
  have hS : va_S (fr_A z) s.heap s.heap [] := va_S.rf
  have hl := lv_entry ([.ref (b 7)]) (n := 1) (Nat.le_of_ble_eq_true rfl)
  rw [lg_entry_eq]
  generalize (lg_sl ([.ref (b 7)]) ++ List.replicate (1 - (lg_sl ([.ref (b 7)])).length) Slot.unset).toArray = ls at hl ⊢
  have hl : lv_has ls 1 [(0, .ref (b 7))] := hl
  refine lv_aload_n hx hb d_A_grow_0 rfl (lv_at hl 0 rfl) ?_
  refine lv_aload_n hx hb d_A_grow_1 rfl (lv_at hl 0 rfl) ?_
  refine fr_get (ci := 4) (Cn := hR_4) (T := hF_4) (N := 3) hx hb hT hi_4 hown hK hE (0, 7) rfl h7 rfl 1 (by decide) (hT _ kw_62) (fun _ h9 => h9) rfl d_A_grow_2 ?_
  refine lv_iconst (v := 1) hx hb d_A_grow_5 (by decide) ?_
  refine lv_iadd hx hb d_A_grow_6 ?_
  refine lv_topi (fun y_1 ey_1 => ?_)
  obtain rfl : y_1 = nI (n0 + 1) := ey_1.trans (by rw [htk]; exact nI_1 n0)
  refine fr_callq (va_runV (As := [.int (nI (n0 + 1))]) (rest := []) ⟨hx, hb, hml, hown, hts⟩ (c_A_grow1 l hE hd h2 hn hel h7 htk) (cwV 1 hts (hw_goodV kw_307 kw_309 kw_9 kw_24 kw_310) rfl rfl rfl (by decide +kernel) ⟨Nat.le_of_ble_eq_true rfl, Nat.le_of_ble_eq_true rfl⟩) ⟨fr_blindX, fr_recv hK hE (0, 7) rfl h7 (ci := 4) rfl, fr_preX hE hK hX hS⟩ rfl rfl hl.1 rfl (lv_room (Nat.le_of_ble_eq_true rfl)) d_A_grow_7 ⟨Nat.le_of_ble_eq_true rfl, Nat.le_of_ble_eq_true rfl⟩) hS (fun r_2 u_2 H locs w_2 hE hS => ?_)
  obtain rfl := w_2
  refine W.widen (k := 1) (n := 2250) (Nat.le_of_ble_eq_true rfl) (Nat.le_of_ble_eq_true rfl) ?_
  exact W.aret (v := .ref u_2) hx hb hr (Or.inr ⟨_, rfl⟩) (va_rf_or (some u_2)) (fun t9 ht9 hW9 => ⟨⟨(some u_2), u_2, rfl, rfl, ⟨by rw [ht9]; exact hE, va_K.moved hW9.alike hK⟩⟩, hS.F ht9⟩) hS.2.2 d_A_grow_10
set_option maxHeartbeats 4000000 in
set_option maxRecDepth 100000 in
theorem c_A_grow_0 (l : Launch) {D : va_G} {z : Nat} {b : Nat → Nat} {C : fr_C} {H9 : Heap} (h9 : fr_W D hCl z b C H9) {cI cZ cJ cP cO : ClassId} {e0 mi : Nat} {mc : Int32} (h7 : C (0, 7) = some (.inr (4, [.ref e0, .int (nI 0), .int mc]))) : Met l y_A_grow w_A_grow ({ frames := 4, cells := 1, slots := 2250, locals := 107 }) (va_Pc [.ref (b 7)] (fr_GX e0 mi D hCl (hTy cI cZ cJ cP cO) z b C)) (va_Qq (fun (r : Option Nat) (u : Nat) => r = some u) (fun u t => fr_G D hCl (hTy cI cZ cJ cP cO) z ((fun u => fr_ub b 27 u) u) ((fun u => fr_up (fr_up C (0, 27) (.inl (cO, 10, .inr (.inr (.inr (.inr (fun _ => none))))))) (0, 7) (.inr (4, [.ref u, .int (nI 0), .int mc]))) u) t) (fr_A z)) 1 2250 (fr_A z) := by
  refine Met.ofW (cc := b_A_grow) (maxL := 1) (ret := (some (.array (.object "java/lang/Object")))) (by decide) rfl ?_
  intro p e s m args below meth c s₁ B hml hv
  obtain ⟨rfl, ⟨hE, hK⟩, hX⟩ := hv
  have hx := B.exec
  have hb := B.bytes
  have hr := B.returns
  have hts := atoms_spec (ws := w_A_grow) B.pre
  have hT : ∀ w ∈ hw_tbl, w.before _ s = true := fun w h => hts w (List.mem_cons_of_mem _ h)
  have hown : s.vm.findClass "java/util/ArrayList" = some m.cls := findClass_of_methodNamed B.named
  have hlocks := B.notSynchronized
  have hS : va_S (fr_A z) s.heap s.heap [] := va_S.rf
  have hl := lv_entry ([.ref (b 7)]) (n := 1) (Nat.le_of_ble_eq_true rfl)
  rw [lg_entry_eq]
  generalize (lg_sl ([.ref (b 7)]) ++ List.replicate (1 - (lg_sl ([.ref (b 7)])).length) Slot.unset).toArray = ls at hl ⊢
  have hl : lv_has ls 1 [(0, .ref (b 7))] := hl
  refine lv_aload_n hx hb d_A_grow_0 rfl (lv_at hl 0 rfl) ?_
  refine lv_aload_n hx hb d_A_grow_1 rfl (lv_at hl 0 rfl) ?_
  refine fr_get (ci := 4) (Cn := hR_4) (T := hF_4) (N := 3) hx hb hT hi_4 hown hK hE (0, 7) rfl h7 rfl 1 (by decide) (hT _ kw_62) (fun _ h9 => h9) rfl d_A_grow_2 ?_
  refine lv_iconst (v := 1) hx hb d_A_grow_5 (by decide) ?_
  refine lv_iadd hx hb d_A_grow_6 ?_
  refine lv_topi (fun y_1 ey_1 => ?_)
  obtain rfl : y_1 = nI 1 := ey_1.trans (nI_1 0)
  refine fr_callq (va_runV (As := [.int (nI 1)]) (rest := []) ⟨hx, hb, hml, hown, hts⟩ (c_A_grow1_0 l hE h7) (cwV 1 hts (hw_goodV kw_307 kw_309 kw_9 kw_24 kw_310) rfl rfl rfl (by decide +kernel) ⟨Nat.le_of_ble_eq_true rfl, Nat.le_of_ble_eq_true rfl⟩) ⟨fr_blindX, fr_recv hK hE (0, 7) rfl h7 (ci := 4) rfl, fr_preX hE hK hX hS⟩ rfl rfl hl.1 rfl (lv_room (Nat.le_of_ble_eq_true rfl)) d_A_grow_7 ⟨Nat.le_of_ble_eq_true rfl, Nat.le_of_ble_eq_true rfl⟩) hS (fun r_2 u_2 H locs w_2 hE hS => ?_)
  obtain rfl := w_2
  refine W.widen (k := 1) (n := 2250) (Nat.le_of_ble_eq_true rfl) (Nat.le_of_ble_eq_true rfl) ?_
  exact W.aret (v := .ref u_2) hx hb hr (Or.inr ⟨_, rfl⟩) (va_rf_or (some u_2)) (fun t9 ht9 hW9 => ⟨⟨(some u_2), u_2, rfl, rfl, ⟨by rw [ht9]; exact hE, va_K.moved hW9.alike hK⟩⟩, hS.F ht9⟩) hS.2.2 d_A_grow_10
