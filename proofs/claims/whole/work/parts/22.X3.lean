/-- what record does, where it is not refused -/
def xRec (b : Nat → Nat) (C : fr_C) (cI cZ : ClassId) (pg gr lf n an lc po : Nat) (st ac dy dl : Nat → Int32) (set day : Int32) : fr_C :=
  xAct b (fr_up (fr_up C (0, 0) (.inr (0, fX b pg gr lf (n + 1) an lc po))) (0, 2) (.inl (cI, 150, .inl (upd st n set)))) cI cZ pg gr lf (n + 1) an lc po ac dy dl n day 0
set_option maxHeartbeats 4000000 in
set_option maxRecDepth 100000 in
theorem c_X_record (l : Launch) {D : va_G} {z : Nat} {b : Nat → Nat} {C : fr_C} {H9 : Heap} (h9 : fr_W D hCl z b C H9) {cI cZ cJ cP cO : ClassId} {pg gr lf n an lc po : Nat} {st : Nat → Int32} {dy : Nat → Int32} {dl : Nat → Int32} {ac : Nat → Int32} (h0 : C (0, 0) = some (.inr (0, fX b pg gr lf n an lc po))) (h2 : C (0, 2) = some (.inl (cI, 150, .inl st))) (h3 : C (0, 3) = some (.inl (cI, 150, .inl dy))) (h4 : C (0, 4) = some (.inl (cZ, 150, .inl dl))) (h5 : C (0, 5) = some (.inl (cI, 150, .inl ac))) (hn : n ≤ 150) (hg : 1 ≤ gr ∧ gr ≤ 100) (set day : Int32) : Met l y_X_record w_X_record ({ frames := 1, cells := 0, slots := 0, locals := 23 }) (va_Pc [.ref (b 0), .int set, .int day] (fr_G D hCl (hTy cI cZ cJ cP cO) z b C)) (va_Qi (fun (r : Int32) (u : fr_C) => (¬ (inN set 10 ∧ okDay gr day) ∧ r = -2 ∧ u = C) ∨ ((inN set 10 ∧ okDay gr day) ∧ 150 ≤ n ∧ r = -4 ∧ u = C) ∨ ((inN set 10 ∧ okDay gr day) ∧ n < 150 ∧ r = nI n ∧ u = xRec b C cI cZ pg gr lf n an lc po st ac dy dl set day)) (fun u t => fr_G D hCl (hTy cI cZ cJ cP cO) z ((fun _ => b) u) ((fun u => u) u) t) (fr_A z)) 0 0 (fr_A z) := by
  refine Met.ofW (cc := b_X_record) (maxL := 4) (ret := (some .int)) (by decide) rfl ?_
  intro p e s m args below meth c s₁ B hml hv
  obtain ⟨rfl, hE, hK⟩ := hv
  have hx := B.exec
  have hb := B.bytes
  have hr := B.returns
  have hts := atoms_spec (ws := w_X_record) B.pre
  have hT : ∀ w ∈ hw_tbl, w.before _ s = true := fun w h => hts w (List.mem_cons_of_mem _ h)
  have hown : s.vm.findClass "HarvestSteps" = some m.cls := findClass_of_methodNamed B.named
  have hlocks := B.notSynchronized
  have hS : va_S (fr_A z) s.heap s.heap [] := va_S.rf
  have hl := lv_entry ([.ref (b 0), .int set, .int day]) (n := 4) (Nat.le_of_ble_eq_true rfl)
  rw [lg_entry_eq]
  generalize (lg_sl ([.ref (b 0), .int set, .int day]) ++ List.replicate (4 - (lg_sl ([.ref (b 0), .int set, .int day])).length) Slot.unset).toArray = ls at hl ⊢
  have hl : lv_has ls 4 [(0, .ref (b 0)), (1, .int set), (2, .int day)] := hl
  refine lv_iload_n hx hb d_X_record_0 rfl (lv_at hl 1 rfl) ?_
  refine fr_calli (va_runS (As := [.int set]) (rest := []) ⟨hx, hb, hml, hown, hts⟩ (c_X_isSet l hE set) (va_cwS 1 hts (hw_goodS kw_140 kw_141 kw_21 kw_142) rfl rfl rfl (by decide +kernel) ⟨Nat.le_of_ble_eq_true rfl, Nat.le_of_ble_eq_true rfl⟩) ⟨fr_blind, fr_pre hE hK⟩ rfl rfl hl.1 rfl (lv_room (Nat.le_of_ble_eq_true rfl)) d_X_record_1 ⟨Nat.le_of_ble_eq_true rfl, Nat.le_of_ble_eq_true rfl⟩) hS (fun r_1 u_1 H locs w_1 hE hS => ?_)
  rcases w_1 with ⟨rfl, pw_1⟩ | ⟨rfl, pw_1⟩
  · skip
    refine lv_if_eq (tgt := 15) hx hb d_X_record_4 (by decide) (fun c_2 => ?_) (fun c_2 => ?_)
    · skip
      exact absurd c_2 (by decide)
    · skip
      refine lv_aload_n hx hb d_X_record_7 rfl (lv_at hl 0 rfl) ?_
      refine lv_iload_n hx hb d_X_record_8 rfl (lv_at hl 2 rfl) ?_
      refine fr_calli (va_runV (As := [.int day]) (rest := []) ⟨hx, hb, hml, hown, hts⟩ (c_X_canBeDay l hE h0 hg day) (cwV 1 hts (hw_goodV kw_143 kw_145 kw_0 kw_21 kw_146) rfl rfl rfl (by decide +kernel) ⟨Nat.le_of_ble_eq_true rfl, Nat.le_of_ble_eq_true rfl⟩) ⟨fr_blind, fr_recv hK hE (0, 0) rfl h0 (ci := 0) rfl, fr_pre hE hK⟩ rfl rfl hl.1 rfl (lv_room (Nat.le_of_ble_eq_true rfl)) d_X_record_9 ⟨Nat.le_of_ble_eq_true rfl, Nat.le_of_ble_eq_true rfl⟩) hS (fun r_3 u_3 H locs w_3 hE hS => ?_)
      rcases w_3 with ⟨rfl, pw_3⟩ | ⟨rfl, pw_3⟩
      · skip
        refine lv_if_ne (tgt := 18) hx hb d_X_record_12 (by decide) (fun c_4 => ?_) (fun c_4 => ?_)
        · skip
          refine lv_aload_n hx hb d_X_record_18 rfl (lv_at hl 0 rfl) ?_
          refine fr_get (ci := 0) (Cn := hR_0) (T := hF_0) (N := 16) hx hb hT hi_0 hown hK hE (0, 0) rfl h0 rfl 8 (by decide) (hT _ kw_95) (fun _ h9 => h9) rfl d_X_record_19 ?_
          refine lv_sipush (v := 150) hx hb d_X_record_22 (by decide) ?_
          refine lv_icmp_lt (tgt := 31) hx hb d_X_record_25 (by decide) (fun c_5 => ?_) (fun c_5 => ?_)
          · skip
            have k_c_5 : n < 150 := (nI_ltI (by omega) (by decide)).mp c_5
            refine lv_aload_n hx hb d_X_record_31 rfl (lv_at hl 0 rfl) ?_
            refine fr_get (ci := 0) (Cn := hR_0) (T := hF_0) (N := 16) hx hb hT hi_0 hown hK hE (0, 0) rfl h0 rfl 8 (by decide) (hT _ kw_95) (fun _ h9 => h9) rfl d_X_record_32 ?_
            refine lv_istore_n (lv' := [(3, .int (nI n)), (0, .ref (b 0)), (1, .int set), (2, .int day)]) hx hb d_X_record_35 rfl hl (by decide) rfl (fun ls hl => ?_)
            refine lv_aload_n hx hb d_X_record_36 rfl (lv_at hl 1 rfl) ?_
            refine lv_dup hx hb d_X_record_37 rfl ?_
            refine fr_get (ci := 0) (Cn := hR_0) (T := hF_0) (N := 16) hx hb hT hi_0 hown hK hE (0, 0) rfl h0 rfl 8 (by decide) (hT _ kw_95) (fun _ h9 => h9) rfl d_X_record_38 ?_
            refine lv_iconst (v := 1) hx hb d_X_record_41 (by decide) ?_
            refine lv_iadd hx hb d_X_record_42 ?_
            refine lv_topi (fun y_6 ey_6 => ?_)
            obtain rfl : y_6 = nI (n + 1) := ey_6.trans (nI_1 n)
            refine fr_put (ci := 0) (v := .int (nI (n + 1))) (ty := .int) (Cn := hR_0) (T := hF_0) (N := 16) hx hb hT hi_0 hy_0 ho_0 hn_0 hown hK hE hS (0, 0) rfl h0 rfl 8 (by decide) (hT _ kw_95) (fun _ h9 => h9) rfl (by decide +kernel) rfl rfl (Nat.le_of_ble_eq_true rfl) d_X_record_43 (fun H locs hE hS => ?_)
            refine lv_aload_n hx hb d_X_record_46 rfl (lv_at hl 1 rfl) ?_
            refine fr_get (ci := 0) (Cn := hR_0) (T := hF_0) (N := 16) hx hb hT hi_0 hown hK hE (0, 0) rfl rfl rfl 4 (by decide) (hT _ kw_91) (fun _ h9 => h9) rfl d_X_record_47 ?_
            refine lv_iload_n hx hb d_X_record_50 rfl (lv_at hl 0 rfl) ?_
            refine lv_iload_n hx hb d_X_record_51 rfl (lv_at hl 2 rfl) ?_
            refine fr_iast hx hb hK hE hS (0, 2) 0 rfl h2 rfl n (rfl) (k_c_5) (by decide) d_X_record_52 (fun H locs hE hS => ?_)
            refine lv_aload_n hx hb d_X_record_53 rfl (lv_at hl 1 rfl) ?_
            refine lv_iload_n hx hb d_X_record_54 rfl (lv_at hl 0 rfl) ?_
            refine lv_iload_n hx hb d_X_record_55 rfl (lv_at hl 3 rfl) ?_
            refine lv_iconst (v := 0) hx hb d_X_record_56 (by decide) ?_
            refine fr_callv (va_runV (As := [.int (nI n), .int day, .int 0]) (rest := []) ⟨hx, hb, hml, hown, hts⟩ (c_X_act l hE (pg := pg) (gr := gr) (lf := lf) (n := n + 1) (an := an) (lc := lc) (po := po) rfl h3 h4 h5 n k_c_5 day 0 (by decide)) (cwV 3 hts (hw_goodV kw_147 kw_149 kw_1 kw_21 kw_150) rfl rfl rfl (by decide +kernel) ⟨Nat.le_of_ble_eq_true rfl, Nat.le_of_ble_eq_true rfl⟩) ⟨fr_blind, fr_recv hK hE (0, 0) rfl rfl (ci := 0) rfl, fr_pre hE hK⟩ rfl rfl hl.1 rfl (lv_room (Nat.le_of_ble_eq_true rfl)) d_X_record_57 ⟨Nat.le_of_ble_eq_true rfl, Nat.le_of_ble_eq_true rfl⟩) hS (fun u_7 H locs w_7 hE hS => ?_)
            refine lv_iload_n hx hb d_X_record_60 rfl (lv_at hl 0 rfl) ?_
            refine W.widen (k := 0) (n := 0) (Nat.le_of_ble_eq_true rfl) (Nat.le_of_ble_eq_true rfl) ?_
            exact W.iret (v := nI n) hx hb hr (fun t9 ht9 hW9 => ⟨⟨nI n, _, rfl, Or.inr (Or.inr ⟨⟨pw_1, pw_3⟩, k_c_5, rfl, rfl⟩), ⟨by rw [ht9]; exact hE, va_K.moved hW9.alike hK⟩⟩, hS.F ht9⟩) hS.2.2 d_X_record_61
          · skip
            have k_c_5 : 150 ≤ n := by rcases Nat.lt_or_ge n 150 with q | q; exact absurd (nI_lt q (by decide)) c_5; exact q
            refine lv_bipush (v := (-4)) hx hb d_X_record_28 (by decide) ?_
            refine W.widen (k := 0) (n := 0) (Nat.le_of_ble_eq_true rfl) (Nat.le_of_ble_eq_true rfl) ?_
            exact W.iret (v := (-4)) hx hb hr (fun t9 ht9 hW9 => ⟨⟨(-4), _, rfl, Or.inr (Or.inl ⟨⟨pw_1, pw_3⟩, k_c_5, rfl, rfl⟩), ⟨by rw [ht9]; exact hE, va_K.moved hW9.alike hK⟩⟩, hS.F ht9⟩) hS.2.2 d_X_record_30
        · skip
          exact absurd c_4 (by decide)
      · skip
        refine lv_if_ne (tgt := 18) hx hb d_X_record_12 (by decide) (fun c_8 => ?_) (fun c_8 => ?_)
        · skip
          exact absurd c_8 (by decide)
        · skip
          refine lv_bipush (v := (-2)) hx hb d_X_record_15 (by decide) ?_
          refine W.widen (k := 0) (n := 0) (Nat.le_of_ble_eq_true rfl) (Nat.le_of_ble_eq_true rfl) ?_
          exact W.iret (v := (-2)) hx hb hr (fun t9 ht9 hW9 => ⟨⟨(-2), _, rfl, Or.inl ⟨fun q => pw_3 q.2, rfl, rfl⟩, ⟨by rw [ht9]; exact hE, va_K.moved hW9.alike hK⟩⟩, hS.F ht9⟩) hS.2.2 d_X_record_17
  · skip
    refine lv_if_eq (tgt := 15) hx hb d_X_record_4 (by decide) (fun c_9 => ?_) (fun c_9 => ?_)
    · skip
      refine lv_bipush (v := (-2)) hx hb d_X_record_15 (by decide) ?_
      refine W.widen (k := 0) (n := 0) (Nat.le_of_ble_eq_true rfl) (Nat.le_of_ble_eq_true rfl) ?_
      exact W.iret (v := (-2)) hx hb hr (fun t9 ht9 hW9 => ⟨⟨(-2), _, rfl, Or.inl ⟨fun q => pw_1 q.1, rfl, rfl⟩, ⟨by rw [ht9]; exact hE, va_K.moved hW9.alike hK⟩⟩, hS.F ht9⟩) hS.2.2 d_X_record_17
    · skip
      exact absurd c_9 (by decide)
set_option maxHeartbeats 4000000 in
set_option maxRecDepth 100000 in
theorem c_X_change (l : Launch) {D : va_G} {z : Nat} {b : Nat → Nat} {C : fr_C} {H9 : Heap} (h9 : fr_W D hCl z b C H9) {cI cZ cJ cP cO : ClassId} {pg gr lf n an lc po : Nat} {dy : Nat → Int32} {dl : Nat → Int32} {ac : Nat → Int32} (h0 : C (0, 0) = some (.inr (0, fX b pg gr lf n an lc po))) (h3 : C (0, 3) = some (.inl (cI, 150, .inl dy))) (h4 : C (0, 4) = some (.inl (cZ, 150, .inl dl))) (h5 : C (0, 5) = some (.inl (cI, 150, .inl ac))) (hn : n ≤ 150) (hg : 1 ≤ gr ∧ gr ≤ 100) (rc day : Int32) : Met l y_X_change w_X_change ({ frames := 1, cells := 0, slots := 0, locals := 23 }) (va_Pc [.ref (b 0), .int rc, .int day] (fr_G D hCl (hTy cI cZ cJ cP cO) z b C)) (va_Qi (fun (r : Int32) (u : fr_C) => (¬ inN rc n ∧ r = -1 ∧ u = C) ∨ (inN rc n ∧ ¬ okDay gr day ∧ r = -2 ∧ u = C) ∨ (∃ j : Nat, j < n ∧ rc = nI j ∧ okDay gr day ∧ (((day < dy j) ∧ r = -3 ∧ u = C) ∨ (¬ (day < dy j) ∧ r = 1 ∧ u = xAct b C cI cZ pg gr lf n an lc po ac dy dl j day 0)))) (fun u t => fr_G D hCl (hTy cI cZ cJ cP cO) z ((fun _ => b) u) ((fun u => u) u) t) (fr_A z)) 0 0 (fr_A z) := by
  refine Met.ofW (cc := b_X_change) (maxL := 3) (ret := (some .int)) (by decide) rfl ?_
  intro p e s m args below meth c s₁ B hml hv
  obtain ⟨rfl, hE, hK⟩ := hv
  have hx := B.exec
  have hb := B.bytes
  have hr := B.returns
  have hts := atoms_spec (ws := w_X_change) B.pre
  have hT : ∀ w ∈ hw_tbl, w.before _ s = true := fun w h => hts w (List.mem_cons_of_mem _ h)
  have hown : s.vm.findClass "HarvestSteps" = some m.cls := findClass_of_methodNamed B.named
  have hlocks := B.notSynchronized
  have hS : va_S (fr_A z) s.heap s.heap [] := va_S.rf
  have hl := lv_entry ([.ref (b 0), .int rc, .int day]) (n := 3) (Nat.le_of_ble_eq_true rfl)
  rw [lg_entry_eq]
  generalize (lg_sl ([.ref (b 0), .int rc, .int day]) ++ List.replicate (3 - (lg_sl ([.ref (b 0), .int rc, .int day])).length) Slot.unset).toArray = ls at hl ⊢
  have hl : lv_has ls 3 [(0, .ref (b 0)), (1, .int rc), (2, .int day)] := hl
  refine lv_aload_n hx hb d_X_change_0 rfl (lv_at hl 0 rfl) ?_
  refine lv_iload_n hx hb d_X_change_1 rfl (lv_at hl 1 rfl) ?_
  refine fr_calli (va_runV (As := [.int rc]) (rest := []) ⟨hx, hb, hml, hown, hts⟩ (c_X_isRecord l hE h0 hn rc) (cwV 1 hts (hw_goodV kw_155 kw_157 kw_2 kw_21 kw_158) rfl rfl rfl (by decide +kernel) ⟨Nat.le_of_ble_eq_true rfl, Nat.le_of_ble_eq_true rfl⟩) ⟨fr_blind, fr_recv hK hE (0, 0) rfl h0 (ci := 0) rfl, fr_pre hE hK⟩ rfl rfl hl.1 rfl (lv_room (Nat.le_of_ble_eq_true rfl)) d_X_change_2 ⟨Nat.le_of_ble_eq_true rfl, Nat.le_of_ble_eq_true rfl⟩) hS (fun r_1 u_1 H locs w_1 hE hS => ?_)
  rcases w_1 with ⟨rfl, pw_1⟩ | ⟨rfl, pw_1⟩
  · skip
    obtain ⟨j_1, hj_1, rfl⟩ := pw_1
    refine lv_if_ne (tgt := 10) hx hb d_X_change_5 (by decide) (fun c_2 => ?_) (fun c_2 => ?_)
    · skip
      refine lv_aload_n hx hb d_X_change_10 rfl (lv_at hl 0 rfl) ?_
      refine lv_iload_n hx hb d_X_change_11 rfl (lv_at hl 2 rfl) ?_
      refine fr_calli (va_runV (As := [.int day]) (rest := []) ⟨hx, hb, hml, hown, hts⟩ (c_X_canBeDay l hE h0 hg day) (cwV 1 hts (hw_goodV kw_143 kw_145 kw_0 kw_21 kw_146) rfl rfl rfl (by decide +kernel) ⟨Nat.le_of_ble_eq_true rfl, Nat.le_of_ble_eq_true rfl⟩) ⟨fr_blind, fr_recv hK hE (0, 0) rfl h0 (ci := 0) rfl, fr_pre hE hK⟩ rfl rfl hl.1 rfl (lv_room (Nat.le_of_ble_eq_true rfl)) d_X_change_12 ⟨Nat.le_of_ble_eq_true rfl, Nat.le_of_ble_eq_true rfl⟩) hS (fun r_3 u_3 H locs w_3 hE hS => ?_)
      rcases w_3 with ⟨rfl, pw_3⟩ | ⟨rfl, pw_3⟩
      · skip
        refine lv_if_ne (tgt := 21) hx hb d_X_change_15 (by decide) (fun c_4 => ?_) (fun c_4 => ?_)
        · skip
          refine lv_iload_n hx hb d_X_change_21 rfl (lv_at hl 2 rfl) ?_
          refine lv_aload_n hx hb d_X_change_22 rfl (lv_at hl 0 rfl) ?_
          refine fr_get (ci := 0) (Cn := hR_0) (T := hF_0) (N := 16) hx hb hT hi_0 hown hK hE (0, 0) rfl h0 rfl 5 (by decide) (hT _ kw_92) (fun _ h9 => h9) rfl d_X_change_23 ?_
          refine lv_iload_n hx hb d_X_change_26 rfl (lv_at hl 1 rfl) ?_
          refine fr_iald hx hb hK hE (0, 3) 0 rfl h3 rfl j_1 (rfl) (by omega) (by decide) d_X_change_27 ?_
          refine lv_icmp_ge (tgt := 34) hx hb d_X_change_28 (by decide) (fun c_5 => ?_) (fun c_5 => ?_)
          · skip
            refine lv_aload_n hx hb d_X_change_34 rfl (lv_at hl 0 rfl) ?_
            refine lv_iload_n hx hb d_X_change_35 rfl (lv_at hl 1 rfl) ?_
            refine lv_iload_n hx hb d_X_change_36 rfl (lv_at hl 2 rfl) ?_
            refine lv_iconst (v := 0) hx hb d_X_change_37 (by decide) ?_
            refine fr_callv (va_runV (As := [.int (nI j_1), .int day, .int 0]) (rest := []) ⟨hx, hb, hml, hown, hts⟩ (c_X_act l hE (pg := pg) (gr := gr) (lf := lf) (n := n) (an := an) (lc := lc) (po := po) h0 h3 h4 h5 j_1 (by omega) day 0 (by decide)) (cwV 3 hts (hw_goodV kw_147 kw_149 kw_1 kw_21 kw_150) rfl rfl rfl (by decide +kernel) ⟨Nat.le_of_ble_eq_true rfl, Nat.le_of_ble_eq_true rfl⟩) ⟨fr_blind, fr_recv hK hE (0, 0) rfl h0 (ci := 0) rfl, fr_pre hE hK⟩ rfl rfl hl.1 rfl (lv_room (Nat.le_of_ble_eq_true rfl)) d_X_change_38 ⟨Nat.le_of_ble_eq_true rfl, Nat.le_of_ble_eq_true rfl⟩) hS (fun u_6 H locs w_6 hE hS => ?_)
            refine lv_iconst (v := 1) hx hb d_X_change_41 (by decide) ?_
            refine W.widen (k := 0) (n := 0) (Nat.le_of_ble_eq_true rfl) (Nat.le_of_ble_eq_true rfl) ?_
            exact W.iret (v := 1) hx hb hr (fun t9 ht9 hW9 => ⟨⟨1, _, rfl, Or.inr (Or.inr ⟨j_1, hj_1, rfl, pw_3, Or.inr ⟨Int32.not_lt.mpr c_5, rfl, rfl⟩⟩), ⟨by rw [ht9]; exact hE, va_K.moved hW9.alike hK⟩⟩, hS.F ht9⟩) hS.2.2 d_X_change_42
          · skip
            refine lv_bipush (v := (-3)) hx hb d_X_change_31 (by decide) ?_
            refine W.widen (k := 0) (n := 0) (Nat.le_of_ble_eq_true rfl) (Nat.le_of_ble_eq_true rfl) ?_
            exact W.iret (v := (-3)) hx hb hr (fun t9 ht9 hW9 => ⟨⟨(-3), _, rfl, Or.inr (Or.inr ⟨j_1, hj_1, rfl, pw_3, Or.inl ⟨Int32.not_le.mp c_5, rfl, rfl⟩⟩), ⟨by rw [ht9]; exact hE, va_K.moved hW9.alike hK⟩⟩, hS.F ht9⟩) hS.2.2 d_X_change_33
        · skip
          exact absurd c_4 (by decide)
      · skip
        refine lv_if_ne (tgt := 21) hx hb d_X_change_15 (by decide) (fun c_7 => ?_) (fun c_7 => ?_)
        · skip
          exact absurd c_7 (by decide)
        · skip
          refine lv_bipush (v := (-2)) hx hb d_X_change_18 (by decide) ?_
          refine W.widen (k := 0) (n := 0) (Nat.le_of_ble_eq_true rfl) (Nat.le_of_ble_eq_true rfl) ?_
          exact W.iret (v := (-2)) hx hb hr (fun t9 ht9 hW9 => ⟨⟨(-2), _, rfl, Or.inr (Or.inl ⟨⟨j_1, hj_1, rfl⟩, pw_3, rfl, rfl⟩), ⟨by rw [ht9]; exact hE, va_K.moved hW9.alike hK⟩⟩, hS.F ht9⟩) hS.2.2 d_X_change_20
    · skip
      exact absurd c_2 (by decide)
  · skip
    refine lv_if_ne (tgt := 10) hx hb d_X_change_5 (by decide) (fun c_8 => ?_) (fun c_8 => ?_)
    · skip
      exact absurd c_8 (by decide)
    · skip
      refine lv_iconst (v := (-1)) hx hb d_X_change_8 (by decide) ?_
      refine W.widen (k := 0) (n := 0) (Nat.le_of_ble_eq_true rfl) (Nat.le_of_ble_eq_true rfl) ?_
      exact W.iret (v := (-1)) hx hb hr (fun t9 ht9 hW9 => ⟨⟨(-1), _, rfl, Or.inl ⟨pw_1, rfl, rfl⟩, ⟨by rw [ht9]; exact hE, va_K.moved hW9.alike hK⟩⟩, hS.F ht9⟩) hS.2.2 d_X_change_9
set_option maxHeartbeats 4000000 in
set_option maxRecDepth 100000 in
theorem c_X_delete (l : Launch) {D : va_G} {z : Nat} {b : Nat → Nat} {C : fr_C} {H9 : Heap} (h9 : fr_W D hCl z b C H9) {cI cZ cJ cP cO : ClassId} {pg gr lf n an lc po : Nat} {dy : Nat → Int32} {dl : Nat → Int32} {ac : Nat → Int32} (h0 : C (0, 0) = some (.inr (0, fX b pg gr lf n an lc po))) (h3 : C (0, 3) = some (.inl (cI, 150, .inl dy))) (h4 : C (0, 4) = some (.inl (cZ, 150, .inl dl))) (h5 : C (0, 5) = some (.inl (cI, 150, .inl ac))) (hn : n ≤ 150) (hg : 1 ≤ gr ∧ gr ≤ 100) (rc day : Int32) : Met l y_X_delete w_X_delete ({ frames := 1, cells := 0, slots := 0, locals := 23 }) (va_Pc [.ref (b 0), .int rc, .int day] (fr_G D hCl (hTy cI cZ cJ cP cO) z b C)) (va_Qi (fun (r : Int32) (u : fr_C) => (¬ inN rc n ∧ r = -1 ∧ u = C) ∨ (inN rc n ∧ ¬ okDay gr day ∧ r = -2 ∧ u = C) ∨ (∃ j : Nat, j < n ∧ rc = nI j ∧ okDay gr day ∧ (((¬ dl j = 0 ∨ day < dy j) ∧ r = -3 ∧ u = C) ∨ (¬ (¬ dl j = 0 ∨ day < dy j) ∧ r = 1 ∧ u = xAct b C cI cZ pg gr lf n an lc po ac dy dl j day 1)))) (fun u t => fr_G D hCl (hTy cI cZ cJ cP cO) z ((fun _ => b) u) ((fun u => u) u) t) (fr_A z)) 0 0 (fr_A z) := by
  refine Met.ofW (cc := b_X_delete) (maxL := 3) (ret := (some .int)) (by decide) rfl ?_
  intro p e s m args below meth c s₁ B hml hv
  obtain ⟨rfl, hE, hK⟩ := hv
  have hx := B.exec
  have hb := B.bytes
  have hr := B.returns
  have hts := atoms_spec (ws := w_X_delete) B.pre
  have hT : ∀ w ∈ hw_tbl, w.before _ s = true := fun w h => hts w (List.mem_cons_of_mem _ h)
  have hown : s.vm.findClass "HarvestSteps" = some m.cls := findClass_of_methodNamed B.named
  have hlocks := B.notSynchronized
  have hS : va_S (fr_A z) s.heap s.heap [] := va_S.rf
  have hl := lv_entry ([.ref (b 0), .int rc, .int day]) (n := 3) (Nat.le_of_ble_eq_true rfl)
  rw [lg_entry_eq]
  generalize (lg_sl ([.ref (b 0), .int rc, .int day]) ++ List.replicate (3 - (lg_sl ([.ref (b 0), .int rc, .int day])).length) Slot.unset).toArray = ls at hl ⊢
  have hl : lv_has ls 3 [(0, .ref (b 0)), (1, .int rc), (2, .int day)] := hl
  refine lv_aload_n hx hb d_X_delete_0 rfl (lv_at hl 0 rfl) ?_
  refine lv_iload_n hx hb d_X_delete_1 rfl (lv_at hl 1 rfl) ?_
  refine fr_calli (va_runV (As := [.int rc]) (rest := []) ⟨hx, hb, hml, hown, hts⟩ (c_X_isRecord l hE h0 hn rc) (cwV 1 hts (hw_goodV kw_155 kw_157 kw_2 kw_21 kw_158) rfl rfl rfl (by decide +kernel) ⟨Nat.le_of_ble_eq_true rfl, Nat.le_of_ble_eq_true rfl⟩) ⟨fr_blind, fr_recv hK hE (0, 0) rfl h0 (ci := 0) rfl, fr_pre hE hK⟩ rfl rfl hl.1 rfl (lv_room (Nat.le_of_ble_eq_true rfl)) d_X_delete_2 ⟨Nat.le_of_ble_eq_true rfl, Nat.le_of_ble_eq_true rfl⟩) hS (fun r_1 u_1 H locs w_1 hE hS => ?_)
  rcases w_1 with ⟨rfl, pw_1⟩ | ⟨rfl, pw_1⟩
  · skip
    obtain ⟨j_1, hj_1, rfl⟩ := pw_1
    refine lv_if_ne (tgt := 10) hx hb d_X_delete_5 (by decide) (fun c_2 => ?_) (fun c_2 => ?_)
    · skip
      refine lv_aload_n hx hb d_X_delete_10 rfl (lv_at hl 0 rfl) ?_
      refine lv_iload_n hx hb d_X_delete_11 rfl (lv_at hl 2 rfl) ?_
      refine fr_calli (va_runV (As := [.int day]) (rest := []) ⟨hx, hb, hml, hown, hts⟩ (c_X_canBeDay l hE h0 hg day) (cwV 1 hts (hw_goodV kw_143 kw_145 kw_0 kw_21 kw_146) rfl rfl rfl (by decide +kernel) ⟨Nat.le_of_ble_eq_true rfl, Nat.le_of_ble_eq_true rfl⟩) ⟨fr_blind, fr_recv hK hE (0, 0) rfl h0 (ci := 0) rfl, fr_pre hE hK⟩ rfl rfl hl.1 rfl (lv_room (Nat.le_of_ble_eq_true rfl)) d_X_delete_12 ⟨Nat.le_of_ble_eq_true rfl, Nat.le_of_ble_eq_true rfl⟩) hS (fun r_3 u_3 H locs w_3 hE hS => ?_)
      rcases w_3 with ⟨rfl, pw_3⟩ | ⟨rfl, pw_3⟩
      · skip
        refine lv_if_ne (tgt := 21) hx hb d_X_delete_15 (by decide) (fun c_4 => ?_) (fun c_4 => ?_)
        · skip
          refine lv_aload_n hx hb d_X_delete_21 rfl (lv_at hl 0 rfl) ?_
          refine fr_get (ci := 0) (Cn := hR_0) (T := hF_0) (N := 16) hx hb hT hi_0 hown hK hE (0, 0) rfl h0 rfl 6 (by decide) (hT _ kw_93) (fun _ h9 => h9) rfl d_X_delete_22 ?_
          refine lv_iload_n hx hb d_X_delete_25 rfl (lv_at hl 1 rfl) ?_
          refine fr_zald hx hb hK hE (0, 4) 1 rfl h4 rfl j_1 (rfl) (by omega) (by decide) d_X_delete_26 ?_
          refine lv_if_ne (tgt := 40) hx hb d_X_delete_27 (by decide) (fun c_5 => ?_) (fun c_5 => ?_)
          · skip
            refine lv_bipush (v := (-3)) hx hb d_X_delete_40 (by decide) ?_
            refine W.widen (k := 0) (n := 0) (Nat.le_of_ble_eq_true rfl) (Nat.le_of_ble_eq_true rfl) ?_
            exact W.iret (v := (-3)) hx hb hr (fun t9 ht9 hW9 => ⟨⟨(-3), _, rfl, Or.inr (Or.inr ⟨j_1, hj_1, rfl, pw_3, Or.inl ⟨Or.inl c_5, rfl, rfl⟩⟩), ⟨by rw [ht9]; exact hE, va_K.moved hW9.alike hK⟩⟩, hS.F ht9⟩) hS.2.2 d_X_delete_42
          · skip
            refine lv_iload_n hx hb d_X_delete_30 rfl (lv_at hl 2 rfl) ?_
            refine lv_aload_n hx hb d_X_delete_31 rfl (lv_at hl 0 rfl) ?_
            refine fr_get (ci := 0) (Cn := hR_0) (T := hF_0) (N := 16) hx hb hT hi_0 hown hK hE (0, 0) rfl h0 rfl 5 (by decide) (hT _ kw_92) (fun _ h9 => h9) rfl d_X_delete_32 ?_
            refine lv_iload_n hx hb d_X_delete_35 rfl (lv_at hl 1 rfl) ?_
            refine fr_iald hx hb hK hE (0, 3) 0 rfl h3 rfl j_1 (rfl) (by omega) (by decide) d_X_delete_36 ?_
            refine lv_icmp_ge (tgt := 43) hx hb d_X_delete_37 (by decide) (fun c_6 => ?_) (fun c_6 => ?_)
            · skip
              refine lv_aload_n hx hb d_X_delete_43 rfl (lv_at hl 0 rfl) ?_
              refine lv_iload_n hx hb d_X_delete_44 rfl (lv_at hl 1 rfl) ?_
              refine lv_iload_n hx hb d_X_delete_45 rfl (lv_at hl 2 rfl) ?_
              refine lv_iconst (v := 1) hx hb d_X_delete_46 (by decide) ?_
              refine fr_callv (va_runV (As := [.int (nI j_1), .int day, .int 1]) (rest := []) ⟨hx, hb, hml, hown, hts⟩ (c_X_act l hE (pg := pg) (gr := gr) (lf := lf) (n := n) (an := an) (lc := lc) (po := po) h0 h3 h4 h5 j_1 (by omega) day 1 (by decide)) (cwV 3 hts (hw_goodV kw_147 kw_149 kw_1 kw_21 kw_150) rfl rfl rfl (by decide +kernel) ⟨Nat.le_of_ble_eq_true rfl, Nat.le_of_ble_eq_true rfl⟩) ⟨fr_blind, fr_recv hK hE (0, 0) rfl h0 (ci := 0) rfl, fr_pre hE hK⟩ rfl rfl hl.1 rfl (lv_room (Nat.le_of_ble_eq_true rfl)) d_X_delete_47 ⟨Nat.le_of_ble_eq_true rfl, Nat.le_of_ble_eq_true rfl⟩) hS (fun u_7 H locs w_7 hE hS => ?_)
              refine lv_iconst (v := 1) hx hb d_X_delete_50 (by decide) ?_
              refine W.widen (k := 0) (n := 0) (Nat.le_of_ble_eq_true rfl) (Nat.le_of_ble_eq_true rfl) ?_
              exact W.iret (v := 1) hx hb hr (fun t9 ht9 hW9 => ⟨⟨1, _, rfl, Or.inr (Or.inr ⟨j_1, hj_1, rfl, pw_3, Or.inr ⟨fun q => q.elim (fun q => q c_5) (Int32.not_lt.mpr c_6), rfl, rfl⟩⟩), ⟨by rw [ht9]; exact hE, va_K.moved hW9.alike hK⟩⟩, hS.F ht9⟩) hS.2.2 d_X_delete_51
            · skip
              refine lv_bipush (v := (-3)) hx hb d_X_delete_40 (by decide) ?_
              refine W.widen (k := 0) (n := 0) (Nat.le_of_ble_eq_true rfl) (Nat.le_of_ble_eq_true rfl) ?_
              exact W.iret (v := (-3)) hx hb hr (fun t9 ht9 hW9 => ⟨⟨(-3), _, rfl, Or.inr (Or.inr ⟨j_1, hj_1, rfl, pw_3, Or.inl ⟨Or.inr (Int32.not_le.mp c_6), rfl, rfl⟩⟩), ⟨by rw [ht9]; exact hE, va_K.moved hW9.alike hK⟩⟩, hS.F ht9⟩) hS.2.2 d_X_delete_42
        · skip
          exact absurd c_4 (by decide)
      · skip
        refine lv_if_ne (tgt := 21) hx hb d_X_delete_15 (by decide) (fun c_8 => ?_) (fun c_8 => ?_)
        · skip
          exact absurd c_8 (by decide)
        · skip
          refine lv_bipush (v := (-2)) hx hb d_X_delete_18 (by decide) ?_
          refine W.widen (k := 0) (n := 0) (Nat.le_of_ble_eq_true rfl) (Nat.le_of_ble_eq_true rfl) ?_
          exact W.iret (v := (-2)) hx hb hr (fun t9 ht9 hW9 => ⟨⟨(-2), _, rfl, Or.inr (Or.inl ⟨⟨j_1, hj_1, rfl⟩, pw_3, rfl, rfl⟩), ⟨by rw [ht9]; exact hE, va_K.moved hW9.alike hK⟩⟩, hS.F ht9⟩) hS.2.2 d_X_delete_20
    · skip
      exact absurd c_2 (by decide)
  · skip
    refine lv_if_ne (tgt := 10) hx hb d_X_delete_5 (by decide) (fun c_9 => ?_) (fun c_9 => ?_)
    · skip
      exact absurd c_9 (by decide)
    · skip
      refine lv_iconst (v := (-1)) hx hb d_X_delete_8 (by decide) ?_
      refine W.widen (k := 0) (n := 0) (Nat.le_of_ble_eq_true rfl) (Nat.le_of_ble_eq_true rfl) ?_
      exact W.iret (v := (-1)) hx hb hr (fun t9 ht9 hW9 => ⟨⟨(-1), _, rfl, Or.inl ⟨pw_1, rfl, rfl⟩, ⟨by rw [ht9]; exact hE, va_K.moved hW9.alike hK⟩⟩, hS.F ht9⟩) hS.2.2 d_X_delete_9
set_option maxHeartbeats 4000000 in
set_option maxRecDepth 100000 in
theorem c_X_form (l : Launch) {D : va_G} {z : Nat} {b : Nat → Nat} {C : fr_C} {H9 : Heap} (h9 : fr_W D hCl z b C H9) {cI cZ cJ cP cO : ClassId} {pg gr lf n an lc po : Nat} {hd : Nat → Int32} (h0 : C (0, 0) = some (.inr (0, fX b pg gr lf n an lc po))) (h1 : C (0, 1) = some (.inl (cZ, 6, .inl hd))) (f x : Int32) (hxx : vp_nar .boolean x = x) : Met l y_X_form w_X_form ({ frames := 1, cells := 0, slots := 0, locals := 20 }) (va_Pc [.ref (b 0), .int f, .int x] (fr_G D hCl (hTy cI cZ cJ cP cO) z b C)) (va_Qi (fun (r : Int32) (u : fr_C) => (¬ inN f 6 ∧ r = -2 ∧ u = C) ∨ (∃ j : Nat, j < 6 ∧ f = nI j ∧ r = 1 ∧ u = fr_up C (0, 1) (.inl (cZ, 6, .inl (upd hd j x))))) (fun u t => fr_G D hCl (hTy cI cZ cJ cP cO) z ((fun _ => b) u) ((fun u => u) u) t) (fr_A z)) 0 0 (fr_A z) := by
  refine Met.ofW (cc := b_X_form) (maxL := 3) (ret := (some .int)) (by decide) rfl ?_
  intro p e s m args below meth c s₁ B hml hv
  obtain ⟨rfl, hE, hK⟩ := hv
  have hx := B.exec
  have hb := B.bytes
  have hr := B.returns
  have hts := atoms_spec (ws := w_X_form) B.pre
  have hT : ∀ w ∈ hw_tbl, w.before _ s = true := fun w h => hts w (List.mem_cons_of_mem _ h)
  have hown : s.vm.findClass "HarvestSteps" = some m.cls := findClass_of_methodNamed B.named
  have hlocks := B.notSynchronized
  have hS : va_S (fr_A z) s.heap s.heap [] := va_S.rf
  have hl := lv_entry ([.ref (b 0), .int f, .int x]) (n := 3) (Nat.le_of_ble_eq_true rfl)
  rw [lg_entry_eq]
  generalize (lg_sl ([.ref (b 0), .int f, .int x]) ++ List.replicate (3 - (lg_sl ([.ref (b 0), .int f, .int x])).length) Slot.unset).toArray = ls at hl ⊢
  have hl : lv_has ls 3 [(0, .ref (b 0)), (1, .int f), (2, .int x)] := hl
  refine lv_iload_n hx hb d_X_form_0 rfl (lv_at hl 1 rfl) ?_
  refine fr_calli (va_runS (As := [.int f]) (rest := []) ⟨hx, hb, hml, hown, hts⟩ (c_X_isForm l hE f) (va_cwS 1 hts (hw_goodS kw_167 kw_168 kw_21 kw_169) rfl rfl rfl (by decide +kernel) ⟨Nat.le_of_ble_eq_true rfl, Nat.le_of_ble_eq_true rfl⟩) ⟨fr_blind, fr_pre hE hK⟩ rfl rfl hl.1 rfl (lv_room (Nat.le_of_ble_eq_true rfl)) d_X_form_1 ⟨Nat.le_of_ble_eq_true rfl, Nat.le_of_ble_eq_true rfl⟩) hS (fun r_1 u_1 H locs w_1 hE hS => ?_)
  rcases w_1 with ⟨rfl, pw_1⟩ | ⟨rfl, pw_1⟩
  · skip
    obtain ⟨j_1, hj_1, rfl⟩ := pw_1
    refine lv_if_ne (tgt := 10) hx hb d_X_form_4 (by decide) (fun c_2 => ?_) (fun c_2 => ?_)
    · skip
      refine lv_aload_n hx hb d_X_form_10 rfl (lv_at hl 0 rfl) ?_
      refine fr_get (ci := 0) (Cn := hR_0) (T := hF_0) (N := 16) hx hb hT hi_0 hown hK hE (0, 0) rfl h0 rfl 3 (by decide) (hT _ kw_90) (fun _ h9 => h9) rfl d_X_form_11 ?_
      refine lv_iload_n hx hb d_X_form_14 rfl (lv_at hl 1 rfl) ?_
      refine lv_iload_n hx hb d_X_form_15 rfl (lv_at hl 2 rfl) ?_
      refine fr_zast hx hb hK hE hS (0, 1) 1 rfl h1 rfl j_1 (rfl) (hj_1) (by decide) x (hxx) d_X_form_16 (fun H locs hE hS => ?_)
      refine lv_iconst (v := 1) hx hb d_X_form_17 (by decide) ?_
      refine W.widen (k := 0) (n := 0) (Nat.le_of_ble_eq_true rfl) (Nat.le_of_ble_eq_true rfl) ?_
      exact W.iret (v := 1) hx hb hr (fun t9 ht9 hW9 => ⟨⟨1, _, rfl, Or.inr ⟨j_1, hj_1, rfl, rfl, rfl⟩, ⟨by rw [ht9]; exact hE, va_K.moved hW9.alike hK⟩⟩, hS.F ht9⟩) hS.2.2 d_X_form_18
    · skip
      exact absurd c_2 (by decide)
  · skip
    refine lv_if_ne (tgt := 10) hx hb d_X_form_4 (by decide) (fun c_3 => ?_) (fun c_3 => ?_)
    · skip
      exact absurd c_3 (by decide)
    · skip
      refine lv_bipush (v := (-2)) hx hb d_X_form_7 (by decide) ?_
      refine W.widen (k := 0) (n := 0) (Nat.le_of_ble_eq_true rfl) (Nat.le_of_ble_eq_true rfl) ?_
      exact W.iret (v := (-2)) hx hb hr (fun t9 ht9 hW9 => ⟨⟨(-2), _, rfl, Or.inl ⟨pw_1, rfl, rfl⟩, ⟨by rw [ht9]; exact hE, va_K.moved hW9.alike hK⟩⟩, hS.F ht9⟩) hS.2.2 d_X_form_9
set_option maxHeartbeats 4000000 in
set_option maxRecDepth 100000 in
theorem c_X_get (l : Launch) {D : va_G} {z : Nat} {b : Nat → Nat} {C : fr_C} {H9 : Heap} (h9 : fr_W D hCl z b C H9) {cI cZ cJ cP cO : ClassId} {pg gr lf n an lc po : Nat} {hd : Nat → Int32} {dy : Nat → Int32} {dl : Nat → Int32} (h0 : C (0, 0) = some (.inr (0, fX b pg gr lf n an lc po))) (h1 : C (0, 1) = some (.inl (cZ, 6, .inl hd))) (h3 : C (0, 3) = some (.inl (cI, 150, .inl dy))) (h4 : C (0, 4) = some (.inl (cZ, 150, .inl dl))) (hn : n ≤ 150) (rc f : Int32) : Met l y_X_get w_X_get ({ frames := 2, cells := 0, slots := 0, locals := 41 }) (va_Pc [.ref (b 0), .int rc, .int f] (fr_G D hCl (hTy cI cZ cJ cP cO) z b C)) (va_Qi (fun (r : Int32) (u : Unit) => (¬ isHeldP hd f ∧ r = -12) ∨ (isHeldP hd f ∧ ¬ inN rc n ∧ r = -16) ∨ (isHeldP hd f ∧ ∃ j : Nat, j < n ∧ rc = nI j ∧ r = if dl j = 0 then dy j else -20 - dy j)) (fun u t => fr_G D hCl (hTy cI cZ cJ cP cO) z ((fun _ => b) u) ((fun _ => C) u) t) (fr_A z)) 0 0 (fr_A z) := by
  refine Met.ofW (cc := b_X_get) (maxL := 3) (ret := (some .int)) (by decide) rfl ?_
  intro p e s m args below meth c s₁ B hml hv
  obtain ⟨rfl, hE, hK⟩ := hv
  have hx := B.exec
  have hb := B.bytes
  have hr := B.returns
  have hts := atoms_spec (ws := w_X_get) B.pre
  have hT : ∀ w ∈ hw_tbl, w.before _ s = true := fun w h => hts w (List.mem_cons_of_mem _ h)
  have hown : s.vm.findClass "HarvestSteps" = some m.cls := findClass_of_methodNamed B.named
  have hlocks := B.notSynchronized
  have hS : va_S (fr_A z) s.heap s.heap [] := va_S.rf
  have hl := lv_entry ([.ref (b 0), .int rc, .int f]) (n := 3) (Nat.le_of_ble_eq_true rfl)
  rw [lg_entry_eq]
  generalize (lg_sl ([.ref (b 0), .int rc, .int f]) ++ List.replicate (3 - (lg_sl ([.ref (b 0), .int rc, .int f])).length) Slot.unset).toArray = ls at hl ⊢
  have hl : lv_has ls 3 [(0, .ref (b 0)), (1, .int rc), (2, .int f)] := hl
  refine lv_aload_n hx hb d_X_get_0 rfl (lv_at hl 0 rfl) ?_
  refine lv_iload_n hx hb d_X_get_1 rfl (lv_at hl 2 rfl) ?_
  refine fr_calli (va_runV (As := [.int f]) (rest := []) ⟨hx, hb, hml, hown, hts⟩ (c_X_isHeld l hE h0 h1 f) (cwV 1 hts (hw_goodV kw_181 kw_183 kw_3 kw_21 kw_184) rfl rfl rfl (by decide +kernel) ⟨Nat.le_of_ble_eq_true rfl, Nat.le_of_ble_eq_true rfl⟩) ⟨fr_blind, fr_recv hK hE (0, 0) rfl h0 (ci := 0) rfl, fr_pre hE hK⟩ rfl rfl hl.1 rfl (lv_room (Nat.le_of_ble_eq_true rfl)) d_X_get_2 ⟨Nat.le_of_ble_eq_true rfl, Nat.le_of_ble_eq_true rfl⟩) hS (fun r_1 u_1 H locs w_1 hE hS => ?_)
  rcases w_1 with ⟨rfl, pw_1⟩ | ⟨rfl, pw_1⟩
  · skip
    refine lv_if_ne (tgt := 11) hx hb d_X_get_5 (by decide) (fun c_2 => ?_) (fun c_2 => ?_)
    · skip
      refine lv_aload_n hx hb d_X_get_11 rfl (lv_at hl 0 rfl) ?_
      refine lv_iload_n hx hb d_X_get_12 rfl (lv_at hl 1 rfl) ?_
      refine fr_calli (va_runV (As := [.int rc]) (rest := []) ⟨hx, hb, hml, hown, hts⟩ (c_X_isRecord l hE h0 hn rc) (cwV 1 hts (hw_goodV kw_155 kw_157 kw_2 kw_21 kw_158) rfl rfl rfl (by decide +kernel) ⟨Nat.le_of_ble_eq_true rfl, Nat.le_of_ble_eq_true rfl⟩) ⟨fr_blind, fr_recv hK hE (0, 0) rfl h0 (ci := 0) rfl, fr_pre hE hK⟩ rfl rfl hl.1 rfl (lv_room (Nat.le_of_ble_eq_true rfl)) d_X_get_13 ⟨Nat.le_of_ble_eq_true rfl, Nat.le_of_ble_eq_true rfl⟩) hS (fun r_3 u_3 H locs w_3 hE hS => ?_)
      rcases w_3 with ⟨rfl, pw_3⟩ | ⟨rfl, pw_3⟩
      · skip
        obtain ⟨j_1, hj_1, rfl⟩ := pw_3
        refine lv_if_ne (tgt := 22) hx hb d_X_get_16 (by decide) (fun c_4 => ?_) (fun c_4 => ?_)
        · skip
          refine lv_aload_n hx hb d_X_get_22 rfl (lv_at hl 0 rfl) ?_
          refine fr_get (ci := 0) (Cn := hR_0) (T := hF_0) (N := 16) hx hb hT hi_0 hown hK hE (0, 0) rfl h0 rfl 6 (by decide) (hT _ kw_93) (fun _ h9 => h9) rfl d_X_get_23 ?_
          refine lv_iload_n hx hb d_X_get_26 rfl (lv_at hl 1 rfl) ?_
          refine fr_zald hx hb hK hE (0, 4) 1 rfl h4 rfl j_1 (rfl) (by omega) (by decide) d_X_get_27 ?_
          refine lv_if_eq (tgt := 43) hx hb d_X_get_28 (by decide) (fun c_5 => ?_) (fun c_5 => ?_)
          · skip
            refine lv_aload_n hx hb d_X_get_43 rfl (lv_at hl 0 rfl) ?_
            refine fr_get (ci := 0) (Cn := hR_0) (T := hF_0) (N := 16) hx hb hT hi_0 hown hK hE (0, 0) rfl h0 rfl 5 (by decide) (hT _ kw_92) (fun _ h9 => h9) rfl d_X_get_44 ?_
            refine lv_iload_n hx hb d_X_get_47 rfl (lv_at hl 1 rfl) ?_
            refine fr_iald hx hb hK hE (0, 3) 0 rfl h3 rfl j_1 (rfl) (by omega) (by decide) d_X_get_48 ?_
            refine W.widen (k := 0) (n := 0) (Nat.le_of_ble_eq_true rfl) (Nat.le_of_ble_eq_true rfl) ?_
            exact W.iret (v := dy j_1) hx hb hr (fun t9 ht9 hW9 => ⟨⟨dy j_1, (), rfl, Or.inr (Or.inr ⟨pw_1, j_1, hj_1, rfl, by rw [if_pos c_5]⟩), ⟨by rw [ht9]; exact hE, va_K.moved hW9.alike hK⟩⟩, hS.F ht9⟩) hS.2.2 d_X_get_49
          · skip
            refine lv_bipush (v := (-20)) hx hb d_X_get_31 (by decide) ?_
            refine lv_aload_n hx hb d_X_get_33 rfl (lv_at hl 0 rfl) ?_
            refine fr_get (ci := 0) (Cn := hR_0) (T := hF_0) (N := 16) hx hb hT hi_0 hown hK hE (0, 0) rfl h0 rfl 5 (by decide) (hT _ kw_92) (fun _ h9 => h9) rfl d_X_get_34 ?_
            refine lv_iload_n hx hb d_X_get_37 rfl (lv_at hl 1 rfl) ?_
            refine fr_iald hx hb hK hE (0, 3) 0 rfl h3 rfl j_1 (rfl) (by omega) (by decide) d_X_get_38 ?_
            refine lv_isub hx hb d_X_get_39 ?_
            refine lv_goto (tgt := 49) hx hb d_X_get_40 (by decide) ?_
            refine W.widen (k := 0) (n := 0) (Nat.le_of_ble_eq_true rfl) (Nat.le_of_ble_eq_true rfl) ?_
            exact W.iret (v := (-20) - (dy j_1)) hx hb hr (fun t9 ht9 hW9 => ⟨⟨(-20) - (dy j_1), (), rfl, Or.inr (Or.inr ⟨pw_1, j_1, hj_1, rfl, by rw [if_neg c_5]⟩), ⟨by rw [ht9]; exact hE, va_K.moved hW9.alike hK⟩⟩, hS.F ht9⟩) hS.2.2 d_X_get_49
        · skip
          exact absurd c_4 (by decide)
      · skip
        refine lv_if_ne (tgt := 22) hx hb d_X_get_16 (by decide) (fun c_6 => ?_) (fun c_6 => ?_)
        · skip
          exact absurd c_6 (by decide)
        · skip
          refine lv_bipush (v := (-16)) hx hb d_X_get_19 (by decide) ?_
          refine W.widen (k := 0) (n := 0) (Nat.le_of_ble_eq_true rfl) (Nat.le_of_ble_eq_true rfl) ?_
          exact W.iret (v := (-16)) hx hb hr (fun t9 ht9 hW9 => ⟨⟨(-16), (), rfl, Or.inr (Or.inl ⟨pw_1, pw_3, rfl⟩), ⟨by rw [ht9]; exact hE, va_K.moved hW9.alike hK⟩⟩, hS.F ht9⟩) hS.2.2 d_X_get_21
    · skip
      exact absurd c_2 (by decide)
  · skip
    refine lv_if_ne (tgt := 11) hx hb d_X_get_5 (by decide) (fun c_7 => ?_) (fun c_7 => ?_)
    · skip
      exact absurd c_7 (by decide)
    · skip
      refine lv_bipush (v := (-12)) hx hb d_X_get_8 (by decide) ?_
      refine W.widen (k := 0) (n := 0) (Nat.le_of_ble_eq_true rfl) (Nat.le_of_ble_eq_true rfl) ?_
      exact W.iret (v := (-12)) hx hb hr (fun t9 ht9 hW9 => ⟨⟨(-12), (), rfl, Or.inl ⟨pw_1, rfl⟩, ⟨by rw [ht9]; exact hE, va_K.moved hW9.alike hK⟩⟩, hS.F ht9⟩) hS.2.2 d_X_get_10
set_option maxHeartbeats 4000000 in
set_option maxRecDepth 100000 in
theorem c_X_counted (l : Launch) {D : va_G} {z : Nat} {b : Nat → Nat} {C : fr_C} {H9 : Heap} (h9 : fr_W D hCl z b C H9) {cI cZ cJ cP cO : ClassId} {pg gr lf n an lc po : Nat} {cs : Nat → Int32} (h0 : C (0, 0) = some (.inr (0, fX b pg gr lf n an lc po))) (h9a : C (0, 9) = some (.inl (cI, 10, .inl cs))) (h : Int32) : Met l y_X_counted w_X_counted ({ frames := 1, cells := 0, slots := 0, locals := 20 }) (va_Pc [.ref (b 0), .int h] (fr_G D hCl (hTy cI cZ cJ cP cO) z b C)) (va_Qi (fun (r : Int32) (u : Unit) => (¬ inN h 10 ∧ r = -1) ∨ (∃ j : Nat, j < 10 ∧ h = nI j ∧ r = cs j)) (fun u t => fr_G D hCl (hTy cI cZ cJ cP cO) z ((fun _ => b) u) ((fun _ => C) u) t) (fr_A z)) 0 0 (fr_A z) := by
  refine Met.ofW (cc := b_X_counted) (maxL := 2) (ret := (some .int)) (by decide) rfl ?_
  intro p e s m args below meth c s₁ B hml hv
  obtain ⟨rfl, hE, hK⟩ := hv
  have hx := B.exec
  have hb := B.bytes
  have hr := B.returns
  have hts := atoms_spec (ws := w_X_counted) B.pre
  have hT : ∀ w ∈ hw_tbl, w.before _ s = true := fun w h => hts w (List.mem_cons_of_mem _ h)
  have hown : s.vm.findClass "HarvestSteps" = some m.cls := findClass_of_methodNamed B.named
  have hlocks := B.notSynchronized
  have hS : va_S (fr_A z) s.heap s.heap [] := va_S.rf
  have hl := lv_entry ([.ref (b 0), .int h]) (n := 2) (Nat.le_of_ble_eq_true rfl)
  rw [lg_entry_eq]
  generalize (lg_sl ([.ref (b 0), .int h]) ++ List.replicate (2 - (lg_sl ([.ref (b 0), .int h])).length) Slot.unset).toArray = ls at hl ⊢
  have hl : lv_has ls 2 [(0, .ref (b 0)), (1, .int h)] := hl
  refine lv_iload_n hx hb d_X_counted_0 rfl (lv_at hl 1 rfl) ?_
  refine fr_calli (va_runS (As := [.int h]) (rest := []) ⟨hx, hb, hml, hown, hts⟩ (c_X_isHarvester l hE h) (va_cwS 1 hts (hw_goodS kw_174 kw_175 kw_21 kw_176) rfl rfl rfl (by decide +kernel) ⟨Nat.le_of_ble_eq_true rfl, Nat.le_of_ble_eq_true rfl⟩) ⟨fr_blind, fr_pre hE hK⟩ rfl rfl hl.1 rfl (lv_room (Nat.le_of_ble_eq_true rfl)) d_X_counted_1 ⟨Nat.le_of_ble_eq_true rfl, Nat.le_of_ble_eq_true rfl⟩) hS (fun r_1 u_1 H locs w_1 hE hS => ?_)
  rcases w_1 with ⟨rfl, pw_1⟩ | ⟨rfl, pw_1⟩
  · skip
    obtain ⟨j_1, hj_1, rfl⟩ := pw_1
    refine lv_if_eq (tgt := 16) hx hb d_X_counted_4 (by decide) (fun c_2 => ?_) (fun c_2 => ?_)
    · skip
      exact absurd c_2 (by decide)
    · skip
      refine lv_aload_n hx hb d_X_counted_7 rfl (lv_at hl 0 rfl) ?_
      refine fr_get (ci := 0) (Cn := hR_0) (T := hF_0) (N := 16) hx hb hT hi_0 hown hK hE (0, 0) rfl h0 rfl 14 (by decide) (hT _ kw_101) (fun _ h9 => h9) rfl d_X_counted_8 ?_
      refine lv_iload_n hx hb d_X_counted_11 rfl (lv_at hl 1 rfl) ?_
      refine fr_iald hx hb hK hE (0, 9) 0 rfl h9a rfl j_1 (rfl) (hj_1) (by decide) d_X_counted_12 ?_
      refine lv_goto (tgt := 17) hx hb d_X_counted_13 (by decide) ?_
      refine W.widen (k := 0) (n := 0) (Nat.le_of_ble_eq_true rfl) (Nat.le_of_ble_eq_true rfl) ?_
      exact W.iret (v := cs j_1) hx hb hr (fun t9 ht9 hW9 => ⟨⟨cs j_1, (), rfl, Or.inr ⟨j_1, hj_1, rfl, rfl⟩, ⟨by rw [ht9]; exact hE, va_K.moved hW9.alike hK⟩⟩, hS.F ht9⟩) hS.2.2 d_X_counted_17
  · skip
    refine lv_if_eq (tgt := 16) hx hb d_X_counted_4 (by decide) (fun c_3 => ?_) (fun c_3 => ?_)
    · skip
      refine lv_iconst (v := (-1)) hx hb d_X_counted_16 (by decide) ?_
      refine W.widen (k := 0) (n := 0) (Nat.le_of_ble_eq_true rfl) (Nat.le_of_ble_eq_true rfl) ?_
      exact W.iret (v := (-1)) hx hb hr (fun t9 ht9 hW9 => ⟨⟨(-1), (), rfl, Or.inl ⟨pw_1, rfl⟩, ⟨by rw [ht9]; exact hE, va_K.moved hW9.alike hK⟩⟩, hS.F ht9⟩) hS.2.2 d_X_counted_17
    · skip
      exact absurd c_3 (by decide)
set_option maxHeartbeats 4000000 in
set_option maxRecDepth 100000 in
theorem c_X_passed (l : Launch) {D : va_G} {z : Nat} {b : Nat → Nat} {C : fr_C} {H9 : Heap} (h9 : fr_W D hCl z b C H9) {cI cZ cJ cP cO : ClassId} {pg gr lf n an lc po : Nat}  (h0 : C (0, 0) = some (.inr (0, fX b pg gr lf n an lc po)))   : Met l y_X_passed w_X_passed ({ frames := 0, cells := 0, slots := 0, locals := 0 }) (va_Pc [.ref (b 0)] (fr_G D hCl (hTy cI cZ cJ cP cO) z b C)) (va_Qi (fun (r : Int32) (u : Unit) => r = nI po) (fun u t => fr_G D hCl (hTy cI cZ cJ cP cO) z ((fun _ => b) u) ((fun _ => C) u) t) (fr_A z)) 0 0 (fr_A z) := by
  refine Met.ofW (cc := b_X_passed) (maxL := 1) (ret := (some .int)) (by decide) rfl ?_
  intro p e s m args below meth c s₁ B hml hv
  obtain ⟨rfl, hE, hK⟩ := hv
  have hx := B.exec
  have hb := B.bytes
  have hr := B.returns
  have hts := atoms_spec (ws := w_X_passed) B.pre
  have hT : ∀ w ∈ hw_tbl, w.before _ s = true := fun w h => hts w (List.mem_cons_of_mem _ h)
  have hown : s.vm.findClass "HarvestSteps" = some m.cls := findClass_of_methodNamed B.named
  have hlocks := B.notSynchronized
  have hS : va_S (fr_A z) s.heap s.heap [] := va_S.rf
  have hl := lv_entry ([.ref (b 0)]) (n := 1) (Nat.le_of_ble_eq_true rfl)
  rw [lg_entry_eq]
  generalize (lg_sl ([.ref (b 0)]) ++ List.replicate (1 - (lg_sl ([.ref (b 0)])).length) Slot.unset).toArray = ls at hl ⊢
  have hl : lv_has ls 1 [(0, .ref (b 0))] := hl
  refine lv_aload_n hx hb d_X_passed_0 rfl (lv_at hl 0 rfl) ?_
  refine fr_get (ci := 0) (Cn := hR_0) (T := hF_0) (N := 16) hx hb hT hi_0 hown hK hE (0, 0) rfl h0 rfl 15 (by decide) (hT _ kw_102) (fun _ h9 => h9) rfl d_X_passed_1 ?_
  refine W.widen (k := 0) (n := 0) (Nat.le_of_ble_eq_true rfl) (Nat.le_of_ble_eq_true rfl) ?_
  exact W.iret (v := nI po) hx hb hr (fun t9 ht9 hW9 => ⟨⟨nI po, (), rfl, rfl, ⟨by rw [ht9]; exact hE, va_K.moved hW9.alike hK⟩⟩, hS.F ht9⟩) hS.2.2 d_X_passed_4
