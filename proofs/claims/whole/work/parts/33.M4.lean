def mAns (C : fr_C) (cI : ClassId) (aw cs pr : Nat → Int32) (hh P : Nat) : fr_C := fr_up (fr_up C (0, 71) (.inl (cI, 10, .inl (upd aw hh (nI P))))) (0, 72) (.inl (cI, 10, .inl (upd cs hh (cs hh + pr P))))
set_option maxHeartbeats 4000000 in
set_option maxRecDepth 100000 in
theorem c_M_answer (l : Launch) {D : va_G} {z : Nat} {b : Nat → Nat} {C : fr_C} {H9 : Heap} (h9 : fr_W D hCl z b C H9) {cI cZ cJ cP cO : ClassId} {th : Int32} {pg gr lf an n lc ps rw tk po : Nat} {pr : Nat → Int32} {aw : Nat → Int32} {cs : Nat → Int32} (m0 : C (0, 40) = some (.inr (5, fM b th pg gr lf an n lc ps rw tk po))) (m20 : C (0, 60) = some (.inl (cI, 4600, .inl pr))) (m31 : C (0, 71) = some (.inl (cI, 10, .inl aw))) (m32 : C (0, 72) = some (.inl (cI, 10, .inl cs))) (hh Q : Nat) (h1 : hh < 10) (h2 : Q < 4600) : Met l y_M_answer w_M_answer ({ frames := 0, cells := 0, slots := 0, locals := 0 }) (va_Pc [.ref (b 40), .int (nI hh), .int (nI Q)] (fr_G D hCl (hTy cI cZ cJ cP cO) z b C)) (va_Qi (fun (r : Int32) (u : Unit) => r = pr Q) (fun u t => fr_G D hCl (hTy cI cZ cJ cP cO) z ((fun _ => b) u) ((fun _ => mAns C cI aw cs pr hh Q) u) t) (fr_A z)) 0 0 (fr_A z) := by
  refine Met.ofW (cc := b_M_answer) (maxL := 3) (ret := (some .int)) (by decide) rfl ?_
  intro p e s m args below meth c s₁ B hml hv
  obtain ⟨rfl, hE, hK⟩ := hv
  have hx := B.exec
  have hb := B.bytes
  have hr := B.returns
  have hts := atoms_spec (ws := w_M_answer) B.pre
  have hT : ∀ w ∈ hw_tbl, w.before _ s = true := fun w h => hts w (List.mem_cons_of_mem _ h)
  have hown : s.vm.findClass "HarvestStepsModel" = some m.cls := findClass_of_methodNamed B.named
  have hlocks := B.notSynchronized
  have hS : va_S (fr_A z) s.heap s.heap [] := va_S.rf
  have hl := lv_entry ([.ref (b 40), .int (nI hh), .int (nI Q)]) (n := 3) (Nat.le_of_ble_eq_true rfl)
  rw [lg_entry_eq]
  generalize (lg_sl ([.ref (b 40), .int (nI hh), .int (nI Q)]) ++ List.replicate (3 - (lg_sl ([.ref (b 40), .int (nI hh), .int (nI Q)])).length) Slot.unset).toArray = ls at hl ⊢
  have hl : lv_has ls 3 [(0, .ref (b 40)), (1, .int (nI hh)), (2, .int (nI Q))] := hl
  refine lv_aload_n hx hb d_M_answer_0 rfl (lv_at hl 0 rfl) ?_
  refine fr_get (ci := 5) (Cn := hR_5) (T := hF_5) (N := 34) hx hb hT hi_5 hown hK hE (0, 40) rfl m0 rfl 31 (by decide) (hT _ kw_505) (fun _ h9 => h9) rfl d_M_answer_1 ?_
  refine lv_iload_n hx hb d_M_answer_4 rfl (lv_at hl 1 rfl) ?_
  refine lv_iload_n hx hb d_M_answer_5 rfl (lv_at hl 2 rfl) ?_
  refine fr_iast hx hb hK hE hS (0, 71) 0 rfl m31 rfl hh (rfl) (by omega) (by decide) d_M_answer_6 (fun H locs hE hS => ?_)
  refine lv_aload_n hx hb d_M_answer_7 rfl (lv_at hl 0 rfl) ?_
  refine fr_get (ci := 5) (Cn := hR_5) (T := hF_5) (N := 34) hx hb hT hi_5 hown hK hE (0, 40) rfl m0 rfl 32 (by decide) (hT _ kw_506) (fun _ h9 => h9) rfl d_M_answer_8 ?_
  refine lv_iload_n hx hb d_M_answer_11 rfl (lv_at hl 1 rfl) ?_
  refine lv_dup2_11 hx hb d_M_answer_12 rfl rfl ?_
  refine fr_iald hx hb hK hE (0, 72) 0 rfl m32 rfl hh (rfl) (by omega) (by decide) d_M_answer_13 ?_
  refine lv_aload_n hx hb d_M_answer_14 rfl (lv_at hl 0 rfl) ?_
  refine fr_get (ci := 5) (Cn := hR_5) (T := hF_5) (N := 34) hx hb hT hi_5 hown hK hE (0, 40) rfl m0 rfl 20 (by decide) (hT _ kw_494) (fun _ h9 => h9) rfl d_M_answer_15 ?_
  refine lv_iload_n hx hb d_M_answer_18 rfl (lv_at hl 2 rfl) ?_
  refine fr_iald hx hb hK hE (0, 60) 0 rfl m20 rfl Q (rfl) (by omega) (by decide) d_M_answer_19 ?_
  refine lv_iadd hx hb d_M_answer_20 ?_
  refine fr_iast hx hb hK hE hS (0, 72) 0 rfl m32 rfl hh (rfl) (by omega) (by decide) d_M_answer_21 (fun H locs hE hS => ?_)
  refine lv_aload_n hx hb d_M_answer_22 rfl (lv_at hl 0 rfl) ?_
  refine fr_get (ci := 5) (Cn := hR_5) (T := hF_5) (N := 34) hx hb hT hi_5 hown hK hE (0, 40) rfl m0 rfl 20 (by decide) (hT _ kw_494) (fun _ h9 => h9) rfl d_M_answer_23 ?_
  refine lv_iload_n hx hb d_M_answer_26 rfl (lv_at hl 2 rfl) ?_
  refine fr_iald hx hb hK hE (0, 60) 0 rfl m20 rfl Q (rfl) (by omega) (by decide) d_M_answer_27 ?_
  refine W.widen (k := 0) (n := 0) (Nat.le_of_ble_eq_true rfl) (Nat.le_of_ble_eq_true rfl) ?_
  exact W.iret (v := pr Q) hx hb hr (fun t9 ht9 hW9 => ⟨⟨pr Q, (), rfl, rfl, ⟨by rw [ht9]; exact hE, va_K.moved hW9.alike hK⟩⟩, hS.F ht9⟩) hS.2.2 d_M_answer_28
set_option maxHeartbeats 4000000 in
set_option maxRecDepth 100000 in
theorem c_M_token (l : Launch) {D : va_G} {z : Nat} {b : Nat → Nat} {C : fr_C} {H9 : Heap} (h9 : fr_W D hCl z b C H9) {cI cZ cJ cP cO : ClassId} {th : Int32} {pg gr lf an n lc ps rw tk po : Nat} {pt : Nat → Int32} {aw : Nat → Int32} (m0 : C (0, 40) = some (.inr (5, fM b th pg gr lf an n lc ps rw tk po))) (m22 : C (0, 62) = some (.inl (cI, 4600, .inl pt))) (m31 : C (0, 71) = some (.inl (cI, 10, .inl aw))) (haw : ∀ j, j < 10 → ¬ aw j < 0 → inN (aw j) 4600) (h : Int32) : Met l y_M_token w_M_token ({ frames := 1, cells := 0, slots := 0, locals := 22 }) (va_Pc [.ref (b 40), .int h] (fr_G D hCl (hTy cI cZ cJ cP cO) z b C)) (va_Qi (fun (r : Int32) (u : Unit) => (¬ inN h 10 ∧ r = -1) ∨ (∃ j : Nat, j < 10 ∧ h = nI j ∧ ((aw j < 0 ∧ r = -1) ∨ (∃ Q : Nat, Q < 4600 ∧ aw j = nI Q ∧ r = pt Q)))) (fun u t => fr_G D hCl (hTy cI cZ cJ cP cO) z ((fun _ => b) u) ((fun _ => fr_up C (0, 40) (.inr (5, fM b 0 pg gr lf an n lc ps rw tk po))) u) t) (fr_A z)) 0 0 (fr_A z) := by
  refine Met.ofW (cc := b_M_token) (maxL := 2) (ret := (some .int)) (by decide) rfl ?_
  intro p e s m args below meth c s₁ B hml hv
  obtain ⟨rfl, hE, hK⟩ := hv
  have hx := B.exec
  have hb := B.bytes
  have hr := B.returns
  have hts := atoms_spec (ws := w_M_token) B.pre
  have hT : ∀ w ∈ hw_tbl, w.before _ s = true := fun w h => hts w (List.mem_cons_of_mem _ h)
  have hown : s.vm.findClass "HarvestStepsModel" = some m.cls := findClass_of_methodNamed B.named
  have hlocks := B.notSynchronized
  have hS : va_S (fr_A z) s.heap s.heap [] := va_S.rf
  have hl := lv_entry ([.ref (b 40), .int h]) (n := 2) (Nat.le_of_ble_eq_true rfl)
  rw [lg_entry_eq]
  generalize (lg_sl ([.ref (b 40), .int h]) ++ List.replicate (2 - (lg_sl ([.ref (b 40), .int h])).length) Slot.unset).toArray = ls at hl ⊢
  have hl : lv_has ls 2 [(0, .ref (b 40)), (1, .int h)] := hl
  refine lv_aload_n hx hb d_M_token_0 rfl (lv_at hl 0 rfl) ?_
  refine lv_iconst (v := 0) hx hb d_M_token_1 (by decide) ?_
  refine fr_put (ci := 5) (v := .int 0) (ty := .int) (Cn := hR_5) (T := hF_5) (N := 34) hx hb hT hi_5 hy_5 ho_5 hn_5 hown hK hE hS (0, 40) rfl m0 rfl 0 (by decide) (hT _ kw_474) (fun _ h9 => h9) rfl (by decide +kernel) rfl rfl (Nat.le_of_ble_eq_true rfl) d_M_token_2 (fun H locs hE hS => ?_)
  refine lv_iload_n hx hb d_M_token_5 rfl (lv_at hl 1 rfl) ?_
  refine lv_iconst (v := 0) hx hb d_M_token_6 (by decide) ?_
  refine lv_bipush (v := 9) hx hb d_M_token_7 (by decide) ?_
  refine fr_calli (va_runS (As := [.int h, .int 0, .int 9]) (rest := []) ⟨hx, hb, hml, hown, hts⟩ (c_M_in l hE h 0 9) (va_cwS 3 hts (hw_goodS kw_585 kw_586 kw_26 kw_587) rfl rfl rfl (by decide +kernel) ⟨Nat.le_of_ble_eq_true rfl, Nat.le_of_ble_eq_true rfl⟩) ⟨fr_blind, fr_pre hE hK⟩ rfl rfl hl.1 rfl (lv_room (Nat.le_of_ble_eq_true rfl)) d_M_token_9 ⟨Nat.le_of_ble_eq_true rfl, Nat.le_of_ble_eq_true rfl⟩) hS (fun r_1 u_1 H locs w_1 hE hS => ?_)
  rcases w_1 with ⟨rfl, pw_1⟩ | ⟨rfl, pw_1⟩
  · skip
    replace pw_1 := (in0 (m := 10) (by decide) (by decide)).mp pw_1
    obtain ⟨j_1, hj_1, rfl⟩ := pw_1
    refine lv_if_eq (tgt := 38) hx hb d_M_token_12 (by decide) (fun c_2 => ?_) (fun c_2 => ?_)
    · skip
      exact absurd c_2 (by decide)
    · skip
      refine lv_aload_n hx hb d_M_token_15 rfl (lv_at hl 0 rfl) ?_
      refine fr_get (ci := 5) (Cn := hR_5) (T := hF_5) (N := 34) hx hb hT hi_5 hown hK hE (0, 40) rfl rfl rfl 31 (by decide) (hT _ kw_505) (fun _ h9 => h9) rfl d_M_token_16 ?_
      refine lv_iload_n hx hb d_M_token_19 rfl (lv_at hl 1 rfl) ?_
      refine fr_iald hx hb hK hE (0, 71) 0 rfl m31 rfl j_1 (rfl) (by omega) (by decide) d_M_token_20 ?_
      refine lv_if_lt (tgt := 38) hx hb d_M_token_21 (by decide) (fun c_3 => ?_) (fun c_3 => ?_)
      · skip
        refine lv_iconst (v := (-1)) hx hb d_M_token_38 (by decide) ?_
        refine W.widen (k := 0) (n := 0) (Nat.le_of_ble_eq_true rfl) (Nat.le_of_ble_eq_true rfl) ?_
        exact W.iret (v := (-1)) hx hb hr (fun t9 ht9 hW9 => ⟨⟨(-1), (), rfl, Or.inr ⟨j_1, hj_1, rfl, Or.inl ⟨c_3, rfl⟩⟩, ⟨by rw [ht9]; exact hE, va_K.moved hW9.alike hK⟩⟩, hS.F ht9⟩) hS.2.2 d_M_token_39
      · skip
        obtain ⟨j_2, hj_2, e_2⟩ := haw j_1 hj_1 c_3
        refine lv_aload_n hx hb d_M_token_24 rfl (lv_at hl 0 rfl) ?_
        refine fr_get (ci := 5) (Cn := hR_5) (T := hF_5) (N := 34) hx hb hT hi_5 hown hK hE (0, 40) rfl rfl rfl 22 (by decide) (hT _ kw_496) (fun _ h9 => h9) rfl d_M_token_25 ?_
        refine lv_aload_n hx hb d_M_token_28 rfl (lv_at hl 0 rfl) ?_
        refine fr_get (ci := 5) (Cn := hR_5) (T := hF_5) (N := 34) hx hb hT hi_5 hown hK hE (0, 40) rfl rfl rfl 31 (by decide) (hT _ kw_505) (fun _ h9 => h9) rfl d_M_token_29 ?_
        refine lv_iload_n hx hb d_M_token_32 rfl (lv_at hl 1 rfl) ?_
        refine fr_iald hx hb hK hE (0, 71) 0 rfl m31 rfl j_1 (rfl) (by omega) (by decide) d_M_token_33 ?_
        refine fr_iald hx hb hK hE (0, 62) 0 rfl m22 rfl j_2 (e_2) (hj_2) (by decide) d_M_token_34 ?_
        refine lv_goto (tgt := 39) hx hb d_M_token_35 (by decide) ?_
        refine W.widen (k := 0) (n := 0) (Nat.le_of_ble_eq_true rfl) (Nat.le_of_ble_eq_true rfl) ?_
        exact W.iret (v := pt j_2) hx hb hr (fun t9 ht9 hW9 => ⟨⟨pt j_2, (), rfl, Or.inr ⟨j_1, hj_1, rfl, Or.inr ⟨j_2, hj_2, e_2, rfl⟩⟩, ⟨by rw [ht9]; exact hE, va_K.moved hW9.alike hK⟩⟩, hS.F ht9⟩) hS.2.2 d_M_token_39
  · skip
    replace pw_1 := fun q => pw_1 ((in0 (m := 10) (by decide) (by decide)).mpr q)
    refine lv_if_eq (tgt := 38) hx hb d_M_token_12 (by decide) (fun c_4 => ?_) (fun c_4 => ?_)
    · skip
      refine lv_iconst (v := (-1)) hx hb d_M_token_38 (by decide) ?_
      refine W.widen (k := 0) (n := 0) (Nat.le_of_ble_eq_true rfl) (Nat.le_of_ble_eq_true rfl) ?_
      exact W.iret (v := (-1)) hx hb hr (fun t9 ht9 hW9 => ⟨⟨(-1), (), rfl, Or.inl ⟨pw_1, rfl⟩, ⟨by rw [ht9]; exact hE, va_K.moved hW9.alike hK⟩⟩, hS.F ht9⟩) hS.2.2 d_M_token_39
    · skip
      exact absurd c_4 (by decide)
set_option maxHeartbeats 4000000 in
set_option maxRecDepth 100000 in
theorem c_M_about (l : Launch) {D : va_G} {z : Nat} {b : Nat → Nat} {C : fr_C} {H9 : Heap} (h9 : fr_W D hCl z b C H9) {cI cZ cJ cP cO : ClassId} {th : Int32} {pg gr lf an n lc ps rw tk po : Nat} {mn : Nat → Int32} {ol : Nat → Int32} {pl : Nat → Int32} {pf : Nat → Int32} {tp : Nat → Int32} {md : Nat → Int32} (m0 : C (0, 40) = some (.inr (5, fM b th pg gr lf an n lc ps rw tk po))) (m12 : C (0, 52) = some (.inl (cI, 30, .inl mn))) (m15 : C (0, 55) = some (.inl (cI, 30, .inl ol))) (m18 : C (0, 58) = some (.inl (cI, 4600, .inl pl))) (m19 : C (0, 59) = some (.inl (cI, 4600, .inl pf))) (m28 : C (0, 68) = some (.inl (cI, 4600, .inl tp))) (m29 : C (0, 69) = some (.inl (cI, 4600, .inl md))) (htk : tk ≤ 4600) (htp : ∀ j, j < tk → ∃ Q L : Nat, Q < 4600 ∧ L < 30 ∧ tp j = nI Q ∧ pl Q = nI L) (tok what : Int32) : Met l y_M_about w_M_about ({ frames := 1, cells := 0, slots := 0, locals := 22 }) (va_Pc [.ref (b 40), .int tok, .int what] (fr_G D hCl (hTy cI cZ cJ cP cO) z b C)) (va_Qi (fun (r : Int32) (u : Unit) => (¬ inN tok tk ∧ r = -1) ∨ (∃ j : Nat, j < tk ∧ tok = nI j ∧ ∃ Q L : Nat, Q < 4600 ∧ L < 30 ∧ tp j = nI Q ∧ pl Q = nI L ∧ ((what = 0 ∧ r = ol L) ∨ (what = 1 ∧ r = md j) ∨ (what = 2 ∧ r = mn L - pf Q - nI pg) ∨ (¬ what = 0 ∧ ¬ what = 1 ∧ ¬ what = 2 ∧ r = -1)))) (fun u t => fr_G D hCl (hTy cI cZ cJ cP cO) z ((fun _ => b) u) ((fun _ => fr_up C (0, 40) (.inr (5, fM b 0 pg gr lf an n lc ps rw tk po))) u) t) (fr_A z)) 0 0 (fr_A z) := by
  refine Met.ofW (cc := b_M_about) (maxL := 5) (ret := (some .int)) (by decide) rfl ?_
  intro p e s m args below meth c s₁ B hml hv
  obtain ⟨rfl, hE, hK⟩ := hv
  have hx := B.exec
  have hb := B.bytes
  have hr := B.returns
  have hts := atoms_spec (ws := w_M_about) B.pre
  have hT : ∀ w ∈ hw_tbl, w.before _ s = true := fun w h => hts w (List.mem_cons_of_mem _ h)
  have hown : s.vm.findClass "HarvestStepsModel" = some m.cls := findClass_of_methodNamed B.named
  have hlocks := B.notSynchronized
  have hS : va_S (fr_A z) s.heap s.heap [] := va_S.rf
  have hl := lv_entry ([.ref (b 40), .int tok, .int what]) (n := 5) (Nat.le_of_ble_eq_true rfl)
  rw [lg_entry_eq]
  generalize (lg_sl ([.ref (b 40), .int tok, .int what]) ++ List.replicate (5 - (lg_sl ([.ref (b 40), .int tok, .int what])).length) Slot.unset).toArray = ls at hl ⊢
  have hl : lv_has ls 5 [(0, .ref (b 40)), (1, .int tok), (2, .int what)] := hl
  refine lv_aload_n hx hb d_M_about_0 rfl (lv_at hl 0 rfl) ?_
  refine lv_iconst (v := 0) hx hb d_M_about_1 (by decide) ?_
  refine fr_put (ci := 5) (v := .int 0) (ty := .int) (Cn := hR_5) (T := hF_5) (N := 34) hx hb hT hi_5 hy_5 ho_5 hn_5 hown hK hE hS (0, 40) rfl m0 rfl 0 (by decide) (hT _ kw_474) (fun _ h9 => h9) rfl (by decide +kernel) rfl rfl (Nat.le_of_ble_eq_true rfl) d_M_about_2 (fun H locs hE hS => ?_)
  refine lv_iload_n hx hb d_M_about_5 rfl (lv_at hl 1 rfl) ?_
  refine lv_iconst (v := 0) hx hb d_M_about_6 (by decide) ?_
  refine lv_aload_n hx hb d_M_about_7 rfl (lv_at hl 0 rfl) ?_
  refine fr_get (ci := 5) (Cn := hR_5) (T := hF_5) (N := 34) hx hb hT hi_5 hown hK hE (0, 40) rfl rfl rfl 27 (by decide) (hT _ kw_501) (fun _ h9 => h9) rfl d_M_about_8 ?_
  refine lv_iconst (v := 1) hx hb d_M_about_11 (by decide) ?_
  refine lv_isub hx hb d_M_about_12 ?_
  refine fr_calli (va_runS (As := [.int tok, .int 0, .int ((nI tk) - 1)]) (rest := []) ⟨hx, hb, hml, hown, hts⟩ (c_M_in l hE tok 0 (nI tk - 1)) (va_cwS 3 hts (hw_goodS kw_585 kw_586 kw_26 kw_587) rfl rfl rfl (by decide +kernel) ⟨Nat.le_of_ble_eq_true rfl, Nat.le_of_ble_eq_true rfl⟩) ⟨fr_blind, fr_pre hE hK⟩ rfl rfl hl.1 rfl (lv_room (Nat.le_of_ble_eq_true rfl)) d_M_about_13 ⟨Nat.le_of_ble_eq_true rfl, Nat.le_of_ble_eq_true rfl⟩) hS (fun r_1 u_1 H locs w_1 hE hS => ?_)
  rcases w_1 with ⟨rfl, pw_1⟩ | ⟨rfl, pw_1⟩
  · skip
    replace pw_1 := (in0 (m := tk) (nI_m1 (by omega)) (by omega)).mp pw_1
    obtain ⟨j_1, hj_1, rfl⟩ := pw_1
    obtain ⟨j_2, j_3, hj_2, hj_3, e_2, e_3⟩ := htp j_1 hj_1
    refine lv_if_ne (tgt := 21) hx hb d_M_about_16 (by decide) (fun c_2 => ?_) (fun c_2 => ?_)
    · skip
      refine lv_aload_n hx hb d_M_about_21 rfl (lv_at hl 0 rfl) ?_
      refine fr_get (ci := 5) (Cn := hR_5) (T := hF_5) (N := 34) hx hb hT hi_5 hown hK hE (0, 40) rfl rfl rfl 28 (by decide) (hT _ kw_502) (fun _ h9 => h9) rfl d_M_about_22 ?_
      refine lv_iload_n hx hb d_M_about_25 rfl (lv_at hl 1 rfl) ?_
      refine fr_iald hx hb hK hE (0, 68) 0 rfl m28 rfl j_1 (rfl) (by omega) (by decide) d_M_about_26 ?_
      refine lv_istore_n (lv' := [(3, .int (tp j_1)), (0, .ref (b 40)), (1, .int (nI j_1)), (2, .int what)]) hx hb d_M_about_27 rfl hl (by decide) rfl (fun ls hl => ?_)
      refine lv_aload_n hx hb d_M_about_28 rfl (lv_at hl 1 rfl) ?_
      refine fr_get (ci := 5) (Cn := hR_5) (T := hF_5) (N := 34) hx hb hT hi_5 hown hK hE (0, 40) rfl rfl rfl 18 (by decide) (hT _ kw_492) (fun _ h9 => h9) rfl d_M_about_29 ?_
      refine lv_iload_n hx hb d_M_about_32 rfl (lv_at hl 0 rfl) ?_
      refine fr_iald hx hb hK hE (0, 58) 0 rfl m18 rfl j_2 (e_2) (by omega) (by decide) d_M_about_33 ?_
      refine lv_istore (lv' := [(4, .int (pl j_2)), (3, .int (tp j_1)), (0, .ref (b 40)), (1, .int (nI j_1)), (2, .int what)]) hx hb d_M_about_34 hl (by decide) rfl (fun ls hl => ?_)
      refine lv_iload_n hx hb d_M_about_36 rfl (lv_at hl 4 rfl) ?_
      by_cases s_3_0 : what = 0
      · skip
        refine lv_tableIn (tgt := 64) (off := 27) hx hb d_M_about_37 (by rw [s_3_0]; decide) (by rw [s_3_0]; decide) (by rw [s_3_0]; rfl) (by decide) ?_
        refine lv_aload_n hx hb d_M_about_64 rfl (lv_at hl 2 rfl) ?_
        refine fr_get (ci := 5) (Cn := hR_5) (T := hF_5) (N := 34) hx hb hT hi_5 hown hK hE (0, 40) rfl rfl rfl 15 (by decide) (hT _ kw_489) (fun _ h9 => h9) rfl d_M_about_65 ?_
        refine lv_iload hx hb d_M_about_68 (lv_at hl 0 rfl) ?_
        refine fr_iald hx hb hK hE (0, 55) 0 rfl m15 rfl j_3 (e_3) (by omega) (by decide) d_M_about_70 ?_
        refine W.widen (k := 0) (n := 0) (Nat.le_of_ble_eq_true rfl) (Nat.le_of_ble_eq_true rfl) ?_
        exact W.iret (v := ol j_3) hx hb hr (fun t9 ht9 hW9 => ⟨⟨ol j_3, (), rfl, Or.inr ⟨j_1, hj_1, rfl, j_2, j_3, hj_2, hj_3, e_2, e_3, Or.inl ⟨s_3_0, rfl⟩⟩, ⟨by rw [ht9]; exact hE, va_K.moved hW9.alike hK⟩⟩, hS.F ht9⟩) hS.2.2 d_M_about_71
      by_cases s_3_1 : what = 1
      · skip
        refine lv_tableIn (tgt := 72) (off := 35) hx hb d_M_about_37 (by rw [s_3_1]; decide) (by rw [s_3_1]; decide) (by rw [s_3_1]; rfl) (by decide) ?_
        refine lv_aload_n hx hb d_M_about_72 rfl (lv_at hl 2 rfl) ?_
        refine fr_get (ci := 5) (Cn := hR_5) (T := hF_5) (N := 34) hx hb hT hi_5 hown hK hE (0, 40) rfl rfl rfl 29 (by decide) (hT _ kw_503) (fun _ h9 => h9) rfl d_M_about_73 ?_
        refine lv_iload_n hx hb d_M_about_76 rfl (lv_at hl 3 rfl) ?_
        refine fr_iald hx hb hK hE (0, 69) 0 rfl m29 rfl j_1 (rfl) (by omega) (by decide) d_M_about_77 ?_
        refine W.widen (k := 0) (n := 0) (Nat.le_of_ble_eq_true rfl) (Nat.le_of_ble_eq_true rfl) ?_
        exact W.iret (v := md j_1) hx hb hr (fun t9 ht9 hW9 => ⟨⟨md j_1, (), rfl, Or.inr ⟨j_1, hj_1, rfl, j_2, j_3, hj_2, hj_3, e_2, e_3, Or.inr (Or.inl ⟨s_3_1, rfl⟩)⟩, ⟨by rw [ht9]; exact hE, va_K.moved hW9.alike hK⟩⟩, hS.F ht9⟩) hS.2.2 d_M_about_78
      by_cases s_3_2 : what = 2
      · skip
        refine lv_tableIn (tgt := 79) (off := 42) hx hb d_M_about_37 (by rw [s_3_2]; decide) (by rw [s_3_2]; decide) (by rw [s_3_2]; rfl) (by decide) ?_
        refine lv_aload_n hx hb d_M_about_79 rfl (lv_at hl 2 rfl) ?_
        refine fr_get (ci := 5) (Cn := hR_5) (T := hF_5) (N := 34) hx hb hT hi_5 hown hK hE (0, 40) rfl rfl rfl 12 (by decide) (hT _ kw_486) (fun _ h9 => h9) rfl d_M_about_80 ?_
        refine lv_iload hx hb d_M_about_83 (lv_at hl 0 rfl) ?_
        refine fr_iald hx hb hK hE (0, 52) 0 rfl m12 rfl j_3 (e_3) (by omega) (by decide) d_M_about_85 ?_
        refine lv_aload_n hx hb d_M_about_86 rfl (lv_at hl 2 rfl) ?_
        refine fr_get (ci := 5) (Cn := hR_5) (T := hF_5) (N := 34) hx hb hT hi_5 hown hK hE (0, 40) rfl rfl rfl 19 (by decide) (hT _ kw_493) (fun _ h9 => h9) rfl d_M_about_87 ?_
        refine lv_iload_n hx hb d_M_about_90 rfl (lv_at hl 1 rfl) ?_
        refine fr_iald hx hb hK hE (0, 59) 0 rfl m19 rfl j_2 (e_2) (by omega) (by decide) d_M_about_91 ?_
        refine lv_isub hx hb d_M_about_92 ?_
        refine lv_aload_n hx hb d_M_about_93 rfl (lv_at hl 2 rfl) ?_
        refine fr_get (ci := 5) (Cn := hR_5) (T := hF_5) (N := 34) hx hb hT hi_5 hown hK hE (0, 40) rfl rfl rfl 1 (by decide) (hT _ kw_475) (fun _ h9 => h9) rfl d_M_about_94 ?_
        refine lv_isub hx hb d_M_about_97 ?_
        refine W.widen (k := 0) (n := 0) (Nat.le_of_ble_eq_true rfl) (Nat.le_of_ble_eq_true rfl) ?_
        exact W.iret (v := ((mn j_3) - (pf j_2)) - (nI pg)) hx hb hr (fun t9 ht9 hW9 => ⟨⟨((mn j_3) - (pf j_2)) - (nI pg), (), rfl, Or.inr ⟨j_1, hj_1, rfl, j_2, j_3, hj_2, hj_3, e_2, e_3, Or.inr (Or.inr (Or.inl ⟨s_3_2, rfl⟩))⟩, ⟨by rw [ht9]; exact hE, va_K.moved hW9.alike hK⟩⟩, hS.F ht9⟩) hS.2.2 d_M_about_98
      refine lv_tableOut (tgt := 99) hx hb d_M_about_37 (by have a_0 := lv_neT s_3_0 (a := 0) rfl; have a_1 := lv_neT s_3_1 (a := 1) rfl; have a_2 := lv_neT s_3_2 (a := 2) rfl; omega) (by decide) ?_
      refine lv_iconst (v := (-1)) hx hb d_M_about_99 (by decide) ?_
      refine W.widen (k := 0) (n := 0) (Nat.le_of_ble_eq_true rfl) (Nat.le_of_ble_eq_true rfl) ?_
      exact W.iret (v := (-1)) hx hb hr (fun t9 ht9 hW9 => ⟨⟨(-1), (), rfl, Or.inr ⟨j_1, hj_1, rfl, j_2, j_3, hj_2, hj_3, e_2, e_3, Or.inr (Or.inr (Or.inr ⟨s_3_0, s_3_1, s_3_2, rfl⟩))⟩, ⟨by rw [ht9]; exact hE, va_K.moved hW9.alike hK⟩⟩, hS.F ht9⟩) hS.2.2 d_M_about_100
    · skip
      exact absurd c_2 (by decide)
  · skip
    replace pw_1 := fun q => pw_1 ((in0 (m := tk) (nI_m1 (by omega)) (by omega)).mpr q)
    refine lv_if_ne (tgt := 21) hx hb d_M_about_16 (by decide) (fun c_4 => ?_) (fun c_4 => ?_)
    · skip
      exact absurd c_4 (by decide)
    · skip
      refine lv_iconst (v := (-1)) hx hb d_M_about_19 (by decide) ?_
      refine W.widen (k := 0) (n := 0) (Nat.le_of_ble_eq_true rfl) (Nat.le_of_ble_eq_true rfl) ?_
      exact W.iret (v := (-1)) hx hb hr (fun t9 ht9 hW9 => ⟨⟨(-1), (), rfl, Or.inl ⟨pw_1, rfl⟩, ⟨by rw [ht9]; exact hE, va_K.moved hW9.alike hK⟩⟩, hS.F ht9⟩) hS.2.2 d_M_about_20
