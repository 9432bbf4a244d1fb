def w_W_row : List Cond := Cond.codeWith y_W_row b_W_row 6 (some .int) [(0, 12, 15, 13)] :: hw_tbl
/-- the page that a harvester has, and the place of its row -/
def rowOk (C : fr_C) (cI cZ : ClassId) (lp : Nat → Option Nat) (h i what : Int32) (j x9 pa m9 ct : Nat) (fo nt : Int32) (fn fd fz : Nat → Int32) : Prop := j < 10 ∧ h = nI j ∧ lp j = some pa ∧ xPg C cI cZ pa m9 ct fo nt fn fd fz ∧ x9 < ct ∧ i = nI x9 ∧ (what = 0 ∨ what = 1 ∨ what = 2 ∨ what = 3)
theorem tW_cast : Cond.castable tNo tNo ∈ tW := by decide +kernel
set_option maxHeartbeats 4000000 in
set_option maxRecDepth 100000 in
theorem c_W_row (l : Launch) (hl9 : l.stackTraces = false) {D : va_G} {z : Nat} {b : Nat → Nat} {C : fr_C} {H9 : Heap} (h9 : fr_W D hCl z b C H9) {sa : Nat → Nat} {fo30 : Nat → Int64} {cI cZ cJ cP cO : ClassId} {pg gr lf n an lc po : Nat} {lp : Nat → Option Nat} (h0 : C (0, 0) = some (.inr (0, fX b pg gr lf n an lc po))) (h8 : C (0, 8) = some (.inl (cP, 10, .inr (.inr (.inr (.inr lp)))))) (h30 : C (0, 30) = some (.inl (cJ, 1, .inr (.inl fo30)))) (hlp : ∀ j pa, j < 10 → lp j = some pa → ∃ (m9 ct : Nat) (fo nt : Int32) (fn fd fz : Nat → Int32), xPg C cI cZ pa m9 ct fo nt fn fd fz) (h i what : Int32) : Met l y_W_row w_W_row ({ frames := 7, cells := 1, slots := 6, locals := 124 }) (va_Pc [.ref (b 0), .int h, .int i, .int what, .ref (b 30)] (fr_GT sa D hCl (hTy cI cZ cJ cP cO) z b C)) (va_Qi (fun (r : Int32) (u : fr_C) => (r = 1 ∧ ¬ (∃ (j x9 pa m9 ct : Nat) (fo nt : Int32) (fn fd fz : Nat → Int32), rowOk C cI cZ lp h i what j x9 pa m9 ct fo nt fn fd fz) ∧ u = C) ∨ (r = 0 ∧ ∃ (j x9 pa m9 ct : Nat) (fo nt : Int32) (fn fd fz : Nat → Int32) (v : Int32), rowOk C cI cZ lp h i what j x9 pa m9 ct fo nt fn fd fz ∧ rowV what v (fn x9) (fd x9) (fz x9) fo ∧ u = fr_up C (0, 30) (.inl (cJ, 1, .inr (.inl (vp_updL fo30 0 v.toInt64)))))) (fun u t => fr_G D hCl (hTy cI cZ cJ cP cO) z b u t) (fr_A z)) 1 6 (fr_A z) := by
  refine va_MetW (cc := b_W_row) (maxL := 6) (ret := (some .int)) (hh := [(0, 12, 15, 13)]) (by decide) rfl ?_
  intro p e s m args below meth c s₁ B hml hv
  obtain ⟨rfl, ⟨hE, hK⟩, hX⟩ := hv
  have hx := B.exec
  have hb := B.bytes
  have hr := B.returns
  have hts := atoms_spec (ws := w_W_row) B.pre
  have hT : ∀ w ∈ hw_tbl, w.before _ s = true := fun w h => hts w (List.mem_cons_of_mem _ h)
  have hown : s.vm.findClass "HarvestStepsLaw" = some m.cls := findClass_of_methodNamed B.named
  have hlocks := B.notSynchronized
  have hS : va_S (fr_A z) s.heap s.heap [] := va_S.rf
  have hl := lv_entry ([.ref (b 0), .int h, .int i, .int what, .ref (b 30)]) (n := 6) (Nat.le_of_ble_eq_true rfl)
  rw [lg_entry_eq]
  generalize (lg_sl ([.ref (b 0), .int h, .int i, .int what, .ref (b 30)]) ++ List.replicate (6 - (lg_sl ([.ref (b 0), .int h, .int i, .int what, .ref (b 30)])).length) Slot.unset).toArray = ls at hl ⊢
  have hl : lv_has ls 6 [(0, .ref (b 0)), (1, .int h), (2, .int i), (3, .int what), (4, .ref (b 30))] := hl
  obtain ⟨m99, meth9, c9, g1, g2, g3, -, -, g4, -⟩ := Cond.codeWith_spec (hts _ (List.mem_cons_self : Cond.codeWith y_W_row b_W_row 6 (some .int) [(0, 12, 15, 13)] ∈ w_W_row))
  cases B.named.symm.trans g1
  cases B.method.symm.trans g2
  cases (Stand.of_body B).code.symm.trans g3
  obtain ⟨x9, hx9, hxa, hxb, hxc, hxd⟩ := fr_table g4
  refine lv_aload hx hb d_W_row_0 (lv_at hl 4 rfl) ?_
  refine lv_iconst (v := 0) hx hb d_W_row_2 (by decide) ?_
  refine lv_aload_n hx hb d_W_row_3 rfl (lv_at hl 0 rfl) ?_
  refine lv_iload_n hx hb d_W_row_4 rfl (lv_at hl 1 rfl) ?_
  refine lv_iload_n hx hb d_W_row_5 rfl (lv_at hl 2 rfl) ?_
  refine lv_iload_n hx hb d_W_row_6 rfl (lv_at hl 3 rfl) ?_
  by_cases hgood : ∃ (j x9 pa m9 ct : Nat) (fo nt : Int32) (fn fd fz : Nat → Int32), rowOk C cI cZ lp h i what j x9 pa m9 ct fo nt fn fd fz
  · skip
    obtain ⟨j, x9, pa, m9, ct, fo, nt, fn, fd, fz, hok⟩ := hgood
    obtain ⟨hj, rfl, hlpj, hpg, hx9, rfl, hwh⟩ := id hok
    refine fr_calli (va_runV (As := [.int (nI j), .int (nI x9), .int what]) (rest := [.int 0, .ref (b 30)]) ⟨hx, hb, hml, hown, hts⟩ (c_X_row l hE (pg := pg) (gr := gr) (lf := lf) (n := n) (an := an) (lc := lc) (po := po) h0 h8 hpg j x9 hj hlpj hx9 what hwh) (cwV 3 hts (hw_goodV kw_394 kw_395 kw_396 kw_21 kw_397) rfl rfl rfl (by decide +kernel) ⟨Nat.le_of_ble_eq_true rfl, Nat.le_of_ble_eq_true rfl⟩) ⟨fr_blind, fr_recv hK hE (0, 0) rfl h0 (ci := 0) rfl, fr_pre hE hK⟩ rfl rfl hl.1 rfl (lv_room (Nat.le_of_ble_eq_true rfl)) d_W_row_7 ⟨Nat.le_of_ble_eq_true rfl, Nat.le_of_ble_eq_true rfl⟩) hS (fun r_1 u_1 H locs w_1 hE hS => ?_)
    refine lv_i2l (v := r_1.toInt64) hx hb d_W_row_10 rfl ?_
    refine fr_last hx hb hK hE hS (0, 30) 2 rfl h30 rfl 0 (rfl) (by omega) (by decide) d_W_row_11 (fun H locs hE hS => ?_)
    refine lv_goto (tgt := 19) hx hb d_W_row_12 (by decide) ?_
    refine lv_iconst (v := 0) hx hb d_W_row_19 (by decide) ?_
    refine W.widen (k := 1) (n := 6) (Nat.le_of_ble_eq_true rfl) (Nat.le_of_ble_eq_true rfl) ?_
    exact W.iret (v := 0) hx hb hr (fun t9 ht9 hW9 => ⟨⟨0, _, rfl, Or.inr ⟨rfl, j, x9, pa, m9, ct, fo, nt, fn, fd, fz, r_1, hok, w_1, rfl⟩, ⟨by rw [ht9]; exact hE, va_K.moved hW9.alike hK⟩⟩, hS.F ht9⟩) hS.2.2 d_W_row_20
  · skip
    refine fr_catchV (As := [.int h, .int i, .int what]) (rest := [.int 0, .ref (b 30)]) ⟨hx, hb, hml, hown, hts⟩ (c_X_row_no l hl9 hE (sa := sa) (pg := pg) (gr := gr) (lf := lf) (n := n) (an := an) (lc := lc) (po := po) h0 h8 hlp h i what hgood) (cwV 3 hts (hw_goodV kw_394 kw_395 kw_396 kw_21 kw_397) rfl rfl rfl (by decide +kernel) ⟨Nat.le_of_ble_eq_true rfl, Nat.le_of_ble_eq_true rfl⟩) ⟨fr_blindT, fr_recv hK hE (0, 0) rfl h0 (ci := 0) rfl, fr_preT hE hK hX hS⟩ rfl hl.1 (Nat.le_of_ble_eq_true rfl) d_W_row_7 ⟨Nat.le_of_ble_eq_true rfl, Nat.le_of_ble_eq_true rfl⟩ hS x9 hx9 (by simp [covers, hxa, hxb]) (by rw [hxd]; decide) (by rw [hxd]; exact hT _ kw_393) (hX.1 _ tW_cast) hxc rfl (fun q9 H locs hE hS => ?_)
    refine lv_astore (lv' := [(5, .ref q9), (0, .ref (b 0)), (1, .int h), (2, .int i), (3, .int what), (4, .ref (b 30))]) hx hb d_W_row_15 hl (by decide) rfl (fun ls hl => ?_)
    refine lv_iconst (v := 1) hx hb d_W_row_17 (by decide) ?_
    refine W.widen (k := 1) (n := 6) (Nat.le_of_ble_eq_true rfl) (Nat.le_of_ble_eq_true rfl) ?_
    exact W.iret (v := 1) hx hb hr (fun t9 ht9 hW9 => ⟨⟨1, C, rfl, Or.inl ⟨rfl, hgood, rfl⟩, ⟨by rw [ht9]; exact hE, va_K.moved hW9.alike hK⟩⟩, hS.F ht9⟩) hS.2.2 d_W_row_18
def fr_GS (sb L : Nat) (xs : Nat → Int32) (D : va_G) (cl : List vw_C) (tys : List (ClassId × FieldType)) (z : Nat) (b : Nat → Nat) (C : fr_C) (U : State) : Prop := fr_G D cl tys z b C U ∧ va_X sb L xs U U.heap ∧ sb < z
theorem fr_blindS {sb L : Nat} {xs : Nat → Int32} {av : List Value} {D : va_G} {cl : List vw_C} {tys : List (ClassId × FieldType)} {z : Nat} {b : Nat → Nat} {C : fr_C} : FrameBlind (va_Pc av (fr_GS sb L xs D cl tys z b C)) :=
  fun a U g mk q => ⟨q.1, ⟨q.2.1.1, va_K.moved (u := U) (U := U.calling g mk a) (Vm.Alike.refl U.vm) q.2.1.2⟩, va_X.moved (u := U) (U := U.calling g mk a) (Vm.Alike.refl U.vm) q.2.2.1, q.2.2.2⟩
theorem fr_preS {sb L : Nat} {xs : Nat → Int32} {av : List Value} {D : va_G} {cl : List vw_C} {tys : List (ClassId × FieldType)} {z : Nat} {b : Nat → Nat} {C : fr_C} {H : Heap} {s : State} {locs : List Loc} (hE : fr_W D cl z b C H) (hK : va_K D cl tys s) (hX : va_X sb L xs s s.heap) (hbz : sb < z) (hS : va_S (fr_A z) s.heap H locs) : ∀ U : State, U.heap = H → s.WarmedH U.vm → va_Pc av (fr_GS sb L xs D cl tys z b C) av.toArray U :=
  fun U hU hW => ⟨rfl, ⟨by rw [hU]; exact hE, va_K.moved hW.alike hK⟩, by
    rw [hU]
    obtain ⟨scr, h1, h2⟩ := id hX
    exact (hX.kept (hS.2.1 sb (Array.getElem?_eq_some_iff.mp h1).1 (fun y => absurd (show z ≤ sb from y) (by omega)))).moved hW.alike, hbz⟩
set_option maxHeartbeats 4000000 in
set_option maxRecDepth 100000 in
theorem c_W_cell (l : Launch) {D : va_G} {z : Nat} {b : Nat → Nat} {C : fr_C} {H9 : Heap} (h9 : fr_W D hCl z b C H9) {cI cZ cJ cP cO : ClassId} {sb L : Nat} {xs : Nat → Int32} (hL : L ≤ 3587) (k : Nat) (hk : k < 10) : Met l y_W_cell w_W_cell ({ frames := 0, cells := 0, slots := 0, locals := 0 }) (va_Pc [.ref sb, .int (nI k)] (fr_GS sb L xs D hCl (hTy cI cZ cJ cP cO) z b C)) (va_Qi (fun (r : Int32) (u : Unit) => r = if k < L then xs k else 0) (fun u t => fr_G D hCl (hTy cI cZ cJ cP cO) z b C t) (fr_A z)) 0 0 (fr_A z) := by
  refine Met.ofW (cc := b_W_cell) (maxL := 2) (ret := (some .int)) (by decide) rfl ?_
  intro p e s m args below meth c s₁ B hml hv
  obtain ⟨rfl, ⟨hE, hK⟩, hX⟩ := hv
  have hx := B.exec
  have hb := B.bytes
  have hr := B.returns
  have hts := atoms_spec (ws := w_W_cell) B.pre
  have hT : ∀ w ∈ hw_tbl, w.before _ s = true := fun w h => hts w (List.mem_cons_of_mem _ h)
  have hown : s.vm.findClass "HarvestStepsLaw" = some m.cls := findClass_of_methodNamed B.named
  have hlocks := B.notSynchronized
  have hS : va_S (fr_A z) s.heap s.heap [] := va_S.rf
  have hl := lv_entry ([.ref sb, .int (nI k)]) (n := 2) (Nat.le_of_ble_eq_true rfl)
  rw [lg_entry_eq]
  generalize (lg_sl ([.ref sb, .int (nI k)]) ++ List.replicate (2 - (lg_sl ([.ref sb, .int (nI k)])).length) Slot.unset).toArray = ls at hl ⊢
  have hl : lv_has ls 2 [(0, .ref sb), (1, .int (nI k))] := hl
  have hbl : sb < s.heap.size := by obtain ⟨scr, h1, -⟩ := hX.1; exact (Array.getElem?_eq_some_iff.mp h1).1
  have hbA : ¬ fr_A z sb := fun y => absurd (show z ≤ sb from y) (by omega)
  refine lv_iload_n hx hb d_W_cell_0 rfl (lv_at hl 1 rfl) ?_
  refine lv_aload_n hx hb d_W_cell_1 rfl (lv_at hl 0 rfl) ?_
  refine va_slen hx hb hX.1 hbl hbA hS d_W_cell_2 ?_
  refine lv_icmp_ge (tgt := 12) hx hb d_W_cell_3 (by decide) (fun c_1 => ?_) (fun c_1 => ?_)
  · skip
    have hkL : ¬ k < L := fun y => absurd c_1 (nI_ge y (by omega))
    refine lv_iconst (v := 0) hx hb d_W_cell_12 (by decide) ?_
    refine W.widen (k := 0) (n := 0) (Nat.le_of_ble_eq_true rfl) (Nat.le_of_ble_eq_true rfl) ?_
    exact W.iret (v := 0) hx hb hr (fun t9 ht9 hW9 => ⟨⟨0, (), rfl, (if_neg hkL).symm, ⟨by rw [ht9]; exact hE, va_K.moved hW9.alike hK⟩⟩, hS.F ht9⟩) hS.2.2 d_W_cell_13
  · skip
    have hkL : k < L := by rcases Nat.lt_or_ge k L with y | y; exact y; exact absurd (nI_le y (by omega)) c_1
    refine lv_aload_n hx hb d_W_cell_6 rfl (lv_at hl 0 rfl) ?_
    refine lv_iload_n hx hb d_W_cell_7 rfl (lv_at hl 1 rfl) ?_
    refine va_sld hx hb hX.1 hbl hbA hS (i := nI k) (by rintro (y | y); exact nI_pos (by omega) y; rw [nI_clamp (by omega)] at y; omega) d_W_cell_8 ?_
    rw [nI_clamp (by omega)]
    refine lv_goto (tgt := 13) hx hb d_W_cell_9 (by decide) ?_
    refine W.widen (k := 0) (n := 0) (Nat.le_of_ble_eq_true rfl) (Nat.le_of_ble_eq_true rfl) ?_
    exact W.iret (v := xs k) hx hb hr (fun t9 ht9 hW9 => ⟨⟨xs k, (), rfl, (if_pos hkL).symm, ⟨by rw [ht9]; exact hE, va_K.moved hW9.alike hK⟩⟩, hS.F ht9⟩) hS.2.2 d_W_cell_13
