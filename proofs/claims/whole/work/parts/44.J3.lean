theorem fr_ub_same (b : Nat → Nat) (i : Nat) : fr_ub b i (b i) = b := by
  funext j
  by_cases h : j = i
  · subst h
    exact fr_ub_self _ _ _
  · exact fr_ub_ne h
theorem fr_ag.rm {L : List (Nat × Nat)} {C' C : fr_C} {r : Nat × Nat} (h : fr_ag L C' C) (hr : r ∈ L) : fr_ag L (fr_rm C' r) C := fun x hx => (fr_rm_ne (fun q => hx (by rw [q]; exact hr))).trans (h x hx)
/-- what the list is after one more was put in -/
def addP (C C' : fr_C) (b b' : Nat → Nat) (cO : ClassId) (dt tk : Nat) (mc : Int32) (f : Nat → Option Nat) (a dt' n' : Nat) (f' : Nat → Option Nat) : Prop :=
  C' (0, 7) = some (.inr (4, [.ref dt', .int (nI (tk + 1)), .int mc])) ∧ C' (1, dt') = some (.inl (cO, n', .inr (.inr (.inr (.inr f'))))) ∧ tk + 1 ≤ n' ∧ 2 ≤ n' ∧ n' ≤ 1500 ∧ f' tk = some a ∧ (∀ i, i < tk → f' i = f i) ∧ (∀ i, tk < i → f' i = none) ∧ (dt' = dt ∨ C (1, dt') = none) ∧ fr_ag [(0, 7), (0, 27), (1, dt')] C' C ∧ ∃ q, b' = fr_ub b 27 q
/-- the list that holds tk: its own empty row, or a row of n0 places -/
def lsAt (C : fr_C) (cO : ClassId) (e0 dt tk n0 : Nat) (f : Nat → Option Nat) : Prop := (dt = e0 ∧ tk = 0) ∨ (C (1, dt) = some (.inl (cO, n0, .inr (.inr (.inr (.inr f))))) ∧ tk ≤ n0 ∧ 2 ≤ n0 ∧ n0 ≤ 1500 ∧ (∀ i y, i < n0 → f i = some y → ∃ fs, C (1, y) = some (.inr (3, fs))) ∧ ∀ i, tk ≤ i → f i = none)
set_option maxHeartbeats 4000000 in
set_option maxRecDepth 100000 in
theorem c_A_add3 (l : Launch) {D : va_G} {z : Nat} {b : Nat → Nat} {C : fr_C} {H9 : Heap} (h9 : fr_W D hCl z b C H9) {cI cZ cJ cP cO : ClassId} {e0 mi : Nat} {mc : Int32} {dt tk n0 : Nat} {f : Nat → Option Nat} (h7 : C (0, 7) = some (.inr (4, [.ref dt, .int (nI tk), .int mc]))) (hd : C (1, dt) = some (.inl (cO, n0, .inr (.inr (.inr (.inr f)))))) (h2 : 2 ≤ n0) (hn : n0 ≤ 1500) (hel : ∀ i y, i < n0 → f i = some y → ∃ fs, C (1, y) = some (.inr (3, fs))) (hno : ∀ i, tk ≤ i → f i = none) {tfs : List Value} (h24 : C (0, 24) = some (.inr (3, tfs))) (hlt : tk < n0) : Met l y_A_add3 w_A_add3 ({ frames := 5, cells := 1, slots := 2250, locals := 127 }) (va_Pc [.ref (b 7), .ref (b 24), .ref dt, .int (nI tk)] (fr_GX e0 mi D hCl (hTy cI cZ cJ cP cO) z b C)) (va_Qv (fun (u : (Nat → Nat) × fr_C × Nat × Nat × (Nat → Option Nat)) => addP C u.2.1 b u.1 cO dt tk mc f (b 24) u.2.2.1 u.2.2.2.1 u.2.2.2.2) (fun u t => fr_G D hCl (hTy cI cZ cJ cP cO) z ((fun u => u.1) u) ((fun u => u.2.1) u) t) (fr_A z)) 1 2250 (fr_A z) := by
  refine Met.ofW (cc := b_A_add3) (maxL := 4) (ret := none) (by decide) rfl ?_
  intro p e s m args below meth c s₁ B hml hv
  obtain ⟨rfl, ⟨hE, hK⟩, hX⟩ := hv
  have hx := B.exec
  have hb := B.bytes
  have hr := B.returns
  have hts := atoms_spec (ws := w_A_add3) B.pre
  have hT : ∀ w ∈ hw_tbl, w.before _ s = true := fun w h => hts w (List.mem_cons_of_mem _ h)
  have hown : s.vm.findClass "java/util/ArrayList" = some m.cls := findClass_of_methodNamed B.named
  have hlocks := B.notSynchronized
  have hS : va_S (fr_A z) s.heap s.heap [] := va_S.rf
  have hl := lv_entry ([.ref (b 7), .ref (b 24), .ref dt, .int (nI tk)]) (n := 4) (Nat.le_of_ble_eq_true rfl)
  rw [lg_entry_eq]
  generalize (lg_sl ([.ref (b 7), .ref (b 24), .ref dt, .int (nI tk)]) ++ List.replicate (4 - (lg_sl ([.ref (b 7), .ref (b 24), .ref dt, .int (nI tk)])).length) Slot.unset).toArray = ls at hl ⊢
  have hl : lv_has ls 4 [(0, .ref (b 7)), (1, .ref (b 24)), (2, .ref dt), (3, .int (nI tk))] := hl
  refine lv_iload_n hx hb d_A_add3_0 rfl (lv_at hl 3 rfl) ?_
  refine lv_aload_n hx hb d_A_add3_1 rfl (lv_at hl 2 rfl) ?_
  refine fr_alen hx hb hK hE (1, dt) 4 rfl hd rfl d_A_add3_2 ?_
  refine lv_icmp_ne (tgt := 11) hx hb d_A_add3_3 (by decide) (fun c_1 => ?_) (fun c_1 => ?_)
  · skip
    refine lv_aload_n hx hb d_A_add3_11 rfl (lv_at hl 2 rfl) ?_
    refine lv_iload_n hx hb d_A_add3_12 rfl (lv_at hl 3 rfl) ?_
    refine lv_aload_n hx hb d_A_add3_13 rfl (lv_at hl 1 rfl) ?_
    refine fr_aastM hx hb hK hE hS (1, dt) 4 rfl hd rfl (fr_any (ci := 3) hK hE (0, 24) rfl h24 rfl hX.2.2.2.2.1) tk rfl (hlt) (by omega) d_A_add3_14 (fun H locs hE hS => ?_)
    refine lv_aload_n hx hb d_A_add3_15 rfl (lv_at hl 0 rfl) ?_
    refine lv_iload_n hx hb d_A_add3_16 rfl (lv_at hl 3 rfl) ?_
    refine lv_iconst (v := 1) hx hb d_A_add3_17 (by decide) ?_
    refine lv_iadd hx hb d_A_add3_18 ?_
    refine lv_topi (fun y_2 ey_2 => ?_)
    obtain rfl : y_2 = nI (tk + 1) := ey_2.trans (nI_1 tk)
    refine fr_put (ci := 4) (v := .int (nI (tk + 1))) (ty := .int) (Cn := hR_4) (T := hF_4) (N := 3) hx hb hT hi_4 hy_4 ho_4 hn_4 hown hK hE hS (0, 7) rfl h7 rfl 1 (by decide) (hT _ kw_62) (fun _ h9 => h9) rfl (by decide +kernel) rfl rfl (Nat.le_of_ble_eq_true rfl) d_A_add3_19 (fun H locs hE hS => ?_)
    refine W.widen (k := 1) (n := 2250) (Nat.le_of_ble_eq_true rfl) (Nat.le_of_ble_eq_true rfl) ?_
    have hpost := hE.say (fun X => addP C X b b cO dt tk mc f (b 24) dt n0 (va_up f tk (some (b 24)))) ⟨rfl, fr_up_self _ _ _, by omega, h2, hn, va_up_self _ _ _, fun i hi => va_up_ne _ _ (by omega), fun i hi => (va_up_ne _ _ (by omega)).trans (hno i (by omega)), Or.inl rfl, (fr_ag.rf.up (r := (1, dt)) (List.Mem.tail _ (List.Mem.tail _ (List.Mem.head _)))).up (r := (0, 7)) (List.Mem.head _), b 27, (fr_ub_same b 27).symm⟩
    exact W.vret hx hb hr (fun t9 ht9 hW9 => ⟨⟨(b, _, dt, n0, va_up f tk (some (b 24))), rfl, hpost, ⟨by rw [ht9]; exact hE, va_K.moved hW9.alike hK⟩⟩, hS.F ht9⟩) hS.2.2 d_A_add3_22
  · skip
    exact absurd c_1 (fun y => absurd ((nI_eq (a := tk) (b := n0) (by omega) (by omega)).mp y) (by omega))
set_option maxHeartbeats 4000000 in
set_option maxRecDepth 100000 in
theorem c_A_add3_g (l : Launch) {D : va_G} {z : Nat} {b : Nat → Nat} {C : fr_C} {H9 : Heap} (h9 : fr_W D hCl z b C H9) {cI cZ cJ cP cO : ClassId} {e0 mi : Nat} {mc : Int32} {dt tk n0 : Nat} {f : Nat → Option Nat} (h7 : C (0, 7) = some (.inr (4, [.ref dt, .int (nI tk), .int mc]))) (hd : C (1, dt) = some (.inl (cO, n0, .inr (.inr (.inr (.inr f)))))) (h2 : 2 ≤ n0) (hn : n0 ≤ 1500) (hel : ∀ i y, i < n0 → f i = some y → ∃ fs, C (1, y) = some (.inr (3, fs))) (hno : ∀ i, tk ≤ i → f i = none) {tfs : List Value} (h24 : C (0, 24) = some (.inr (3, tfs))) (htk : tk = n0) (hsm : n0 < 1000) : Met l y_A_add3 w_A_add3 ({ frames := 5, cells := 1, slots := 2250, locals := 127 }) (va_Pc [.ref (b 7), .ref (b 24), .ref dt, .int (nI tk)] (fr_GX e0 mi D hCl (hTy cI cZ cJ cP cO) z b C)) (va_Qv (fun (u : (Nat → Nat) × fr_C × Nat × Nat × (Nat → Option Nat)) => addP C u.2.1 b u.1 cO dt tk mc f (b 24) u.2.2.1 u.2.2.2.1 u.2.2.2.2) (fun u t => fr_G D hCl (hTy cI cZ cJ cP cO) z ((fun u => u.1) u) ((fun u => u.2.1) u) t) (fr_A z)) 1 2250 (fr_A z) := by
  refine Met.ofW (cc := b_A_add3) (maxL := 4) (ret := none) (by decide) rfl ?_
  intro p e s m args below meth c s₁ B hml hv
  obtain ⟨rfl, ⟨hE, hK⟩, hX⟩ := hv
  have hx := B.exec
  have hb := B.bytes
  have hr := B.returns
  have hts := atoms_spec (ws := w_A_add3) B.pre
  have hT : ∀ w ∈ hw_tbl, w.before _ s = true := fun w h => hts w (List.mem_cons_of_mem _ h)
  have hown : s.vm.findClass "java/util/ArrayList" = some m.cls := findClass_of_methodNamed B.named
  have hlocks := B.notSynchronized
  have hS : va_S (fr_A z) s.heap s.heap [] := va_S.rf
  have hl := lv_entry ([.ref (b 7), .ref (b 24), .ref dt, .int (nI tk)]) (n := 4) (Nat.le_of_ble_eq_true rfl)
  rw [lg_entry_eq]
  generalize (lg_sl ([.ref (b 7), .ref (b 24), .ref dt, .int (nI tk)]) ++ List.replicate (4 - (lg_sl ([.ref (b 7), .ref (b 24), .ref dt, .int (nI tk)])).length) Slot.unset).toArray = ls at hl ⊢
  have hl : lv_has ls 4 [(0, .ref (b 7)), (1, .ref (b 24)), (2, .ref dt), (3, .int (nI tk))] := hl
  refine lv_iload_n hx hb d_A_add3_0 rfl (lv_at hl 3 rfl) ?_
  refine lv_aload_n hx hb d_A_add3_1 rfl (lv_at hl 2 rfl) ?_
  refine fr_alen hx hb hK hE (1, dt) 4 rfl hd rfl d_A_add3_2 ?_
  refine lv_icmp_ne (tgt := 11) hx hb d_A_add3_3 (by decide) (fun c_1 => ?_) (fun c_1 => ?_)
  · skip
    exact absurd c_1 (fun q9 => q9 (congrArg nI htk))
  · skip
    refine lv_aload_n hx hb d_A_add3_6 rfl (lv_at hl 0 rfl) ?_
    refine fr_callq (va_runV (As := []) (rest := []) ⟨hx, hb, hml, hown, hts⟩ (c_A_grow l hE hd h2 hn hel h7 htk) (cwV 0 hts (hw_goodV kw_303 kw_305 kw_8 kw_24 kw_306) rfl rfl rfl (by decide +kernel) ⟨Nat.le_of_ble_eq_true rfl, Nat.le_of_ble_eq_true rfl⟩) ⟨fr_blindX, fr_recv hK hE (0, 7) rfl h7 (ci := 4) rfl, fr_preX hE hK hX hS⟩ rfl rfl hl.1 rfl (lv_room (Nat.le_of_ble_eq_true rfl)) d_A_add3_7 ⟨Nat.le_of_ble_eq_true rfl, Nat.le_of_ble_eq_true rfl⟩) hS (fun r_2 u_2 H locs w_2 hE hS => ?_)
    obtain rfl := w_2
    refine lv_astore_n (lv' := [(2, .ref u_2), (0, .ref (b 7)), (1, .ref (b 24)), (3, .int (nI tk))]) hx hb d_A_add3_10 rfl hl (by decide) rfl (fun ls hl => ?_)
    refine lv_aload_n hx hb d_A_add3_11 rfl (lv_at hl 0 rfl) ?_
    refine lv_iload_n hx hb d_A_add3_12 rfl (lv_at hl 3 rfl) ?_
    refine lv_aload_n hx hb d_A_add3_13 rfl (lv_at hl 2 rfl) ?_
    refine fr_aastM hx hb hK hE hS (0, 27) 4 rfl rfl rfl (fr_any (ci := 3) hK hE (0, 24) rfl h24 rfl hX.2.2.2.2.1) tk rfl (by omega) (by omega) d_A_add3_14 (fun H locs hE hS => ?_)
    refine lv_aload_n hx hb d_A_add3_15 rfl (lv_at hl 1 rfl) ?_
    refine lv_iload_n hx hb d_A_add3_16 rfl (lv_at hl 3 rfl) ?_
    refine lv_iconst (v := 1) hx hb d_A_add3_17 (by decide) ?_
    refine lv_iadd hx hb d_A_add3_18 ?_
    refine lv_topi (fun y_3 ey_3 => ?_)
    obtain rfl : y_3 = nI (tk + 1) := ey_3.trans (nI_1 tk)
    refine fr_put (ci := 4) (v := .int (nI (tk + 1))) (ty := .int) (Cn := hR_4) (T := hF_4) (N := 3) hx hb hT hi_4 hy_4 ho_4 hn_4 hown hK hE hS (0, 7) rfl rfl rfl 1 (by decide) (hT _ kw_62) (fun _ h9 => h9) rfl (by decide +kernel) rfl rfl (Nat.le_of_ble_eq_true rfl) d_A_add3_19 (fun H locs hE hS => ?_)
    refine W.widen (k := 1) (n := 2250) (Nat.le_of_ble_eq_true rfl) (Nat.le_of_ble_eq_true rfl) ?_
    have hfr := hE.retire 27 rfl
    have nq : C (1, u_2) = none := by cases hc : C (1, u_2) with | none => rfl | some e9 => exact absurd rfl (hE.ne_pool (a := u_2) (i := 27) hc rfl)
    replace hE := hfr
    have hpost := hE.say (fun X => addP C X b (fr_ub b 27 u_2) cO dt tk mc f (b 24) u_2 (n0 + n0 / 2) (va_up (va_cpy f (fun _ => none) 0 0 n0) tk (some (b 24)))) ⟨rfl, fr_up_self _ _ _, by omega, by omega, by omega, va_up_self _ _ _, fun i hi => (va_up_ne _ _ (by omega)).trans (by rw [pk_cpy_in (Nat.zero_le i) (by omega)]; exact congrArg f (by omega)), fun i hi => (va_up_ne _ _ (by omega)).trans (pk_cpy_out (by omega)), Or.inr nq, ((((((fr_ag.rf.up (r := (0, 27)) (by simp)).up (r := (0, 7)) (by simp)).up (r := (0, 27)) (by simp)).up (r := (0, 7)) (by simp)).rm (r := (0, 27)) (by simp)).up (r := (1, u_2)) (by simp)), u_2, rfl⟩
    exact W.vret hx hb hr (fun t9 ht9 hW9 => ⟨⟨(fr_ub b 27 u_2, _, u_2, n0 + n0 / 2, va_up (va_cpy f (fun _ => none) 0 0 n0) tk (some (b 24))), rfl, hpost, ⟨by rw [ht9]; exact hE, va_K.moved hW9.alike hK⟩⟩, hS.F ht9⟩) hS.2.2 d_A_add3_22
set_option maxHeartbeats 4000000 in
set_option maxRecDepth 100000 in
theorem c_A_add3_0 (l : Launch) {D : va_G} {z : Nat} {b : Nat → Nat} {C : fr_C} {H9 : Heap} (h9 : fr_W D hCl z b C H9) {cI cZ cJ cP cO : ClassId} {e0 mi : Nat} {mc : Int32} {f : Nat → Option Nat} (h7 : C (0, 7) = some (.inr (4, [.ref e0, .int (nI 0), .int mc]))) {tfs : List Value} (h24 : C (0, 24) = some (.inr (3, tfs))) : Met l y_A_add3 w_A_add3 ({ frames := 5, cells := 1, slots := 2250, locals := 127 }) (va_Pc [.ref (b 7), .ref (b 24), .ref e0, .int (nI 0)] (fr_GX e0 mi D hCl (hTy cI cZ cJ cP cO) z b C)) (va_Qv (fun (u : (Nat → Nat) × fr_C × Nat × Nat × (Nat → Option Nat)) => addP C u.2.1 b u.1 cO e0 0 mc f (b 24) u.2.2.1 u.2.2.2.1 u.2.2.2.2) (fun u t => fr_G D hCl (hTy cI cZ cJ cP cO) z ((fun u => u.1) u) ((fun u => u.2.1) u) t) (fr_A z)) 1 2250 (fr_A z) := by
  refine Met.ofW (cc := b_A_add3) (maxL := 4) (ret := none) (by decide) rfl ?_
  intro p e s m args below meth c s₁ B hml hv
  obtain ⟨rfl, ⟨hE, hK⟩, hX⟩ := hv
  have hx := B.exec
  have hb := B.bytes
  have hr := B.returns
  have hts := atoms_spec (ws := w_A_add3) B.pre
  have hT : ∀ w ∈ hw_tbl, w.before _ s = true := fun w h => hts w (List.mem_cons_of_mem _ h)
  have hown : s.vm.findClass "java/util/ArrayList" = some m.cls := findClass_of_methodNamed B.named
  have hlocks := B.notSynchronized
  have hS : va_S (fr_A z) s.heap s.heap [] := va_S.rf
  have hl := lv_entry ([.ref (b 7), .ref (b 24), .ref e0, .int (nI 0)]) (n := 4) (Nat.le_of_ble_eq_true rfl)
  rw [lg_entry_eq]
  generalize (lg_sl ([.ref (b 7), .ref (b 24), .ref e0, .int (nI 0)]) ++ List.replicate (4 - (lg_sl ([.ref (b 7), .ref (b 24), .ref e0, .int (nI 0)])).length) Slot.unset).toArray = ls at hl ⊢
  have hl : lv_has ls 4 [(0, .ref (b 7)), (1, .ref (b 24)), (2, .ref e0), (3, .int (nI 0))] := hl
  refine lv_iload_n hx hb d_A_add3_0 rfl (lv_at hl 3 rfl) ?_
  refine lv_aload_n hx hb d_A_add3_1 rfl (lv_at hl 2 rfl) ?_
  refine va_tlen (v := 0) hx hb hX.2.1 hS rfl d_A_add3_2 ?_
  refine lv_icmp_ne (tgt := 11) hx hb d_A_add3_3 (by decide) (fun c_1 => ?_) (fun c_1 => ?_)
  · skip
    exact absurd c_1 (fun q9 => q9 rfl)
  · skip
    refine lv_aload_n hx hb d_A_add3_6 rfl (lv_at hl 0 rfl) ?_
    refine fr_callq (va_runV (As := []) (rest := []) ⟨hx, hb, hml, hown, hts⟩ (c_A_grow_0 l hE h7) (cwV 0 hts (hw_goodV kw_303 kw_305 kw_8 kw_24 kw_306) rfl rfl rfl (by decide +kernel) ⟨Nat.le_of_ble_eq_true rfl, Nat.le_of_ble_eq_true rfl⟩) ⟨fr_blindX, fr_recv hK hE (0, 7) rfl h7 (ci := 4) rfl, fr_preX hE hK hX hS⟩ rfl rfl hl.1 rfl (lv_room (Nat.le_of_ble_eq_true rfl)) d_A_add3_7 ⟨Nat.le_of_ble_eq_true rfl, Nat.le_of_ble_eq_true rfl⟩) hS (fun r_2 u_2 H locs w_2 hE hS => ?_)
    obtain rfl := w_2
    refine lv_astore_n (lv' := [(2, .ref u_2), (0, .ref (b 7)), (1, .ref (b 24)), (3, .int (nI 0))]) hx hb d_A_add3_10 rfl hl (by decide) rfl (fun ls hl => ?_)
    refine lv_aload_n hx hb d_A_add3_11 rfl (lv_at hl 0 rfl) ?_
    refine lv_iload_n hx hb d_A_add3_12 rfl (lv_at hl 3 rfl) ?_
    refine lv_aload_n hx hb d_A_add3_13 rfl (lv_at hl 2 rfl) ?_
    refine fr_aastM hx hb hK hE hS (0, 27) 4 rfl rfl rfl (fr_any (ci := 3) hK hE (0, 24) rfl h24 rfl hX.2.2.2.2.1) 0 rfl (by decide) (by decide) d_A_add3_14 (fun H locs hE hS => ?_)
    refine lv_aload_n hx hb d_A_add3_15 rfl (lv_at hl 1 rfl) ?_
    refine lv_iload_n hx hb d_A_add3_16 rfl (lv_at hl 3 rfl) ?_
    refine lv_iconst (v := 1) hx hb d_A_add3_17 (by decide) ?_
    refine lv_iadd hx hb d_A_add3_18 ?_
    refine lv_topi (fun y_3 ey_3 => ?_)
    obtain rfl : y_3 = nI 1 := ey_3.trans (nI_1 0)
    refine fr_put (ci := 4) (v := .int (nI 1)) (ty := .int) (Cn := hR_4) (T := hF_4) (N := 3) hx hb hT hi_4 hy_4 ho_4 hn_4 hown hK hE hS (0, 7) rfl rfl rfl 1 (by decide) (hT _ kw_62) (fun _ h9 => h9) rfl (by decide +kernel) rfl rfl (Nat.le_of_ble_eq_true rfl) d_A_add3_19 (fun H locs hE hS => ?_)
    refine W.widen (k := 1) (n := 2250) (Nat.le_of_ble_eq_true rfl) (Nat.le_of_ble_eq_true rfl) ?_
    have hfr := hE.retire 27 rfl
    have nq : C (1, u_2) = none := by cases hc : C (1, u_2) with | none => rfl | some e9 => exact absurd rfl (hE.ne_pool (a := u_2) (i := 27) hc rfl)
    replace hE := hfr
    have hpost := hE.say (fun X => addP C X b (fr_ub b 27 u_2) cO e0 0 mc f (b 24) u_2 (10) (va_up (fun _ => none) 0 (some (b 24)))) ⟨rfl, fr_up_self _ _ _, by omega, by decide, by decide, va_up_self _ _ _, fun i hi => (va_up_ne _ _ (by omega)).trans (absurd hi (Nat.not_lt_zero i)), fun i hi => (va_up_ne _ _ (by omega)).trans (rfl), Or.inr nq, ((((((fr_ag.rf.up (r := (0, 27)) (by simp)).up (r := (0, 7)) (by simp)).up (r := (0, 27)) (by simp)).up (r := (0, 7)) (by simp)).rm (r := (0, 27)) (by simp)).up (r := (1, u_2)) (by simp)), u_2, rfl⟩
    exact W.vret hx hb hr (fun t9 ht9 hW9 => ⟨⟨(fr_ub b 27 u_2, _, u_2, 10, va_up (fun _ => none) 0 (some (b 24))), rfl, hpost, ⟨by rw [ht9]; exact hE, va_K.moved hW9.alike hK⟩⟩, hS.F ht9⟩) hS.2.2 d_A_add3_22
set_option maxHeartbeats 4000000 in
set_option maxRecDepth 100000 in
theorem c_A_add (l : Launch) {D : va_G} {z : Nat} {b : Nat → Nat} {C : fr_C} {H9 : Heap} (h9 : fr_W D hCl z b C H9) {cI cZ cJ cP cO : ClassId} {e0 mi : Nat} {mc : Int32} {dt tk n0 : Nat} {f : Nat → Option Nat} (h7 : C (0, 7) = some (.inr (4, [.ref dt, .int (nI tk), .int mc]))) (hls : lsAt C cO e0 dt tk n0 f) (hsm : tk < 1000) {tfs : List Value} (h24 : C (0, 24) = some (.inr (3, tfs))) : Met l y_A_add w_A_add ({ frames := 6, cells := 1, slots := 2250, locals := 150 }) (va_Pc [.ref (b 7), .ref (b 24)] (fr_GX e0 mi D hCl (hTy cI cZ cJ cP cO) z b C)) (va_Qi (fun (r : Int32) (u : (Nat → Nat) × fr_C × Nat × Nat × (Nat → Option Nat)) => r = 1 ∧ addP C u.2.1 b u.1 cO dt tk (mc + 1) f (b 24) u.2.2.1 u.2.2.2.1 u.2.2.2.2) (fun u t => fr_G D hCl (hTy cI cZ cJ cP cO) z ((fun u => u.1) u) ((fun u => u.2.1) u) t) (fr_A z)) 1 2250 (fr_A z) := by
  refine Met.ofW (cc := b_A_add) (maxL := 2) (ret := (some .boolean)) (by decide) rfl ?_
  intro p e s m args below meth c s₁ B hml hv
  obtain ⟨rfl, ⟨hE, hK⟩, hX⟩ := hv
  have hx := B.exec
  have hb := B.bytes
  have hr := B.returns
  have hts := atoms_spec (ws := w_A_add) B.pre
  have hT : ∀ w ∈ hw_tbl, w.before _ s = true := fun w h => hts w (List.mem_cons_of_mem _ h)
  have hown : s.vm.findClass "java/util/ArrayList" = some m.cls := findClass_of_methodNamed B.named
  have hlocks := B.notSynchronized
  have hS : va_S (fr_A z) s.heap s.heap [] := va_S.rf
  have hl := lv_entry ([.ref (b 7), .ref (b 24)]) (n := 2) (Nat.le_of_ble_eq_true rfl)
  rw [lg_entry_eq]
  generalize (lg_sl ([.ref (b 7), .ref (b 24)]) ++ List.replicate (2 - (lg_sl ([.ref (b 7), .ref (b 24)])).length) Slot.unset).toArray = ls at hl ⊢
  have hl : lv_has ls 2 [(0, .ref (b 7)), (1, .ref (b 24))] := hl
  refine lv_aload_n hx hb d_A_add_0 rfl (lv_at hl 0 rfl) ?_
  refine lv_dup hx hb d_A_add_1 rfl ?_
  refine fr_get (ci := 4) (Cn := hR_4) (T := hF_4) (N := 3) hx hb hT hi_4 hown hK hE (0, 7) rfl h7 rfl 2 (by decide) (hT _ kw_64) (fun x9 h9 => u_same (hT _ kw_65) x9 h9) rfl d_A_add_2 ?_
  refine lv_iconst (v := 1) hx hb d_A_add_5 (by decide) ?_
  refine lv_iadd hx hb d_A_add_6 ?_
  refine fr_put (ci := 4) (v := .int (mc + 1)) (ty := .int) (Cn := hR_4) (T := hF_4) (N := 3) hx hb hT hi_4 hy_4 ho_4 hn_4 hown hK hE hS (0, 7) rfl h7 rfl 2 (by decide) (hT _ kw_64) (fun x9 h9 => u_same (hT _ kw_65) x9 h9) rfl (by decide +kernel) rfl rfl (Nat.le_of_ble_eq_true rfl) d_A_add_7 (fun H locs hE hS => ?_)
  refine lv_aload_n hx hb d_A_add_10 rfl (lv_at hl 0 rfl) ?_
  refine lv_aload_n hx hb d_A_add_11 rfl (lv_at hl 1 rfl) ?_
  refine lv_aload_n hx hb d_A_add_12 rfl (lv_at hl 0 rfl) ?_
  refine fr_get (ci := 4) (Cn := hR_4) (T := hF_4) (N := 3) hx hb hT hi_4 hown hK hE (0, 7) rfl rfl rfl 0 (by decide) (hT _ kw_61) (fun _ h9 => h9) rfl d_A_add_13 ?_
  refine lv_aload_n hx hb d_A_add_16 rfl (lv_at hl 0 rfl) ?_
  refine fr_get (ci := 4) (Cn := hR_4) (T := hF_4) (N := 3) hx hb hT hi_4 hown hK hE (0, 7) rfl rfl rfl 1 (by decide) (hT _ kw_62) (fun _ h9 => h9) rfl d_A_add_17 ?_
  rcases hls with ⟨rfl, rfl⟩ | ⟨hd, hk0, h2, hn, hel, hno⟩
  · skip
    refine fr_callv (va_runV (As := [.ref (b 24), .ref dt, .int (nI 0)]) (rest := []) ⟨hx, hb, hml, hown, hts⟩ (c_A_add3_0 l hE (f := f) rfl h24) (cwV 3 hts (hw_goodV kw_299 kw_301 kw_7 kw_24 kw_302) rfl rfl rfl (by decide +kernel) ⟨Nat.le_of_ble_eq_true rfl, Nat.le_of_ble_eq_true rfl⟩) ⟨fr_blindX, fr_recv hK hE (0, 7) rfl rfl (ci := 4) rfl, fr_preX hE hK hX hS⟩ rfl rfl hl.1 rfl (lv_room (Nat.le_of_ble_eq_true rfl)) d_A_add_20 ⟨Nat.le_of_ble_eq_true rfl, Nat.le_of_ble_eq_true rfl⟩) hS (fun u_1 H locs w_1 hE hS => ?_)
    refine lv_iconst (v := 1) hx hb d_A_add_23 (by decide) ?_
    refine W.widen (k := 1) (n := 2250) (Nat.le_of_ble_eq_true rfl) (Nat.le_of_ble_eq_true rfl) ?_
    exact W.zret (v := 1) (ty := .boolean) hx hb hr rfl (fun t9 ht9 hW9 => ⟨⟨1, u_1, rfl, (by obtain ⟨y1, y2, y3, y4, y5, y6, y7, y8, y9, yA, yB⟩ := w_1; exact ⟨rfl, y1, y2, y3, y4, y5, y6, y7, y8, y9, (yA.tr (fr_ag.rf.up (r := (0, 7)) (by simp))), yB⟩), ⟨by rw [ht9]; exact hE, va_K.moved hW9.alike hK⟩⟩, hS.F ht9⟩) hS.2.2 d_A_add_24
  rcases Nat.lt_or_ge tk n0 with hlt | hge
  · skip
    refine fr_callv (va_runV (As := [.ref (b 24), .ref dt, .int (nI tk)]) (rest := []) ⟨hx, hb, hml, hown, hts⟩ (c_A_add3 l hE rfl hd h2 hn hel hno h24 hlt) (cwV 3 hts (hw_goodV kw_299 kw_301 kw_7 kw_24 kw_302) rfl rfl rfl (by decide +kernel) ⟨Nat.le_of_ble_eq_true rfl, Nat.le_of_ble_eq_true rfl⟩) ⟨fr_blindX, fr_recv hK hE (0, 7) rfl rfl (ci := 4) rfl, fr_preX hE hK hX hS⟩ rfl rfl hl.1 rfl (lv_room (Nat.le_of_ble_eq_true rfl)) d_A_add_20 ⟨Nat.le_of_ble_eq_true rfl, Nat.le_of_ble_eq_true rfl⟩) hS (fun u_2 H locs w_2 hE hS => ?_)
    refine lv_iconst (v := 1) hx hb d_A_add_23 (by decide) ?_
    refine W.widen (k := 1) (n := 2250) (Nat.le_of_ble_eq_true rfl) (Nat.le_of_ble_eq_true rfl) ?_
    exact W.zret (v := 1) (ty := .boolean) hx hb hr rfl (fun t9 ht9 hW9 => ⟨⟨1, u_2, rfl, (by obtain ⟨y1, y2, y3, y4, y5, y6, y7, y8, y9, yA, yB⟩ := w_2; exact ⟨rfl, y1, y2, y3, y4, y5, y6, y7, y8, y9, (yA.tr (fr_ag.rf.up (r := (0, 7)) (by simp))), yB⟩), ⟨by rw [ht9]; exact hE, va_K.moved hW9.alike hK⟩⟩, hS.F ht9⟩) hS.2.2 d_A_add_24
  · skip
    refine fr_callv (va_runV (As := [.ref (b 24), .ref dt, .int (nI tk)]) (rest := []) ⟨hx, hb, hml, hown, hts⟩ (c_A_add3_g l hE rfl hd h2 hn hel hno h24 (by omega) (by omega)) (cwV 3 hts (hw_goodV kw_299 kw_301 kw_7 kw_24 kw_302) rfl rfl rfl (by decide +kernel) ⟨Nat.le_of_ble_eq_true rfl, Nat.le_of_ble_eq_true rfl⟩) ⟨fr_blindX, fr_recv hK hE (0, 7) rfl rfl (ci := 4) rfl, fr_preX hE hK hX hS⟩ rfl rfl hl.1 rfl (lv_room (Nat.le_of_ble_eq_true rfl)) d_A_add_20 ⟨Nat.le_of_ble_eq_true rfl, Nat.le_of_ble_eq_true rfl⟩) hS (fun u_3 H locs w_3 hE hS => ?_)
    refine lv_iconst (v := 1) hx hb d_A_add_23 (by decide) ?_
    refine W.widen (k := 1) (n := 2250) (Nat.le_of_ble_eq_true rfl) (Nat.le_of_ble_eq_true rfl) ?_
    exact W.zret (v := 1) (ty := .boolean) hx hb hr rfl (fun t9 ht9 hW9 => ⟨⟨1, u_3, rfl, (by obtain ⟨y1, y2, y3, y4, y5, y6, y7, y8, y9, yA, yB⟩ := w_3; exact ⟨rfl, y1, y2, y3, y4, y5, y6, y7, y8, y9, (yA.tr (fr_ag.rf.up (r := (0, 7)) (by simp))), yB⟩), ⟨by rw [ht9]; exact hE, va_K.moved hW9.alike hK⟩⟩, hS.F ht9⟩) hS.2.2 d_A_add_24
