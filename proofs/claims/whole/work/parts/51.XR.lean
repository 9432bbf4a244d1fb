theorem fr_W.grown {D : va_G} {cl : List vw_C} {z : Nat} {b : Nat → Nat} {C : fr_C} {H H1 : Heap} (h : fr_W D cl z b C H) (h1 : H.size ≤ H1.size) (h2 : ∀ i : Nat, i < H.size → H1[i]? = H[i]?) : fr_W D cl z b C H1 :=
  ⟨Nat.le_trans h.1 h1, fun r e hr => ⟨(h.2.1 r e hr).1.kept (h2 _ (h.lt hr)), (h.2.1 r e hr).2⟩, h.2.2⟩
theorem fr_W.none {D : va_G} {cl : List vw_C} {b : Nat → Nat} {H : Heap} : fr_W D cl H.size b (fun _ => none) H := ⟨Nat.le_refl _, fun r e h => (nomatch h), fun r r2 e e2 h => (nomatch h)⟩
/-- how a method ends that throws a NoSuchElementException and leaves the world as it was -/
def fr_QT (D : va_G) (tys : List (ClassId × FieldType)) (z : Nat) (b : Nat → Nat) (C : fr_C) : Array Value → State → Outcome → State → Prop := fun _ st oc t => ∃ (q : Addr) (ce : Cell), oc = .threw q ∧ t.heap[q]? = some ce ∧ ce.vm = .none ∧ st.vm.findClass tNo = some ce.cls ∧ fr_G D hCl tys z b C t ∧ va_F (fr_A z) st t
/-- a page as the class has it: of m places, ct of them taken -/
def xPg (C : fr_C) (cI cZ : ClassId) (pa m ct : Nat) (fo nt : Int32) (fn fd fz : Nat → Int32) : Prop := ∃ pn pd pz : Nat, C (1, pa) = some (.inr (2, [.int fo, .ref pn, .ref pd, .ref pz, .int (nI ct), .int nt])) ∧ C (1, pn) = some (.inl (cI, m, .inl fn)) ∧ C (1, pd) = some (.inl (cI, m, .inl fd)) ∧ C (1, pz) = some (.inl (cZ, m, .inl fz)) ∧ ct ≤ m ∧ m ≤ 50
def rowV (what r : Int32) (a c : Int32) (d : Int32) (f : Int32) : Prop := (what = 0 ∧ r = a) ∨ (what = 1 ∧ r = c) ∨ (what = 2 ∧ r = if d = 0 then 0 else 1) ∨ (what = 3 ∧ r = f)
set_option maxHeartbeats 4000000 in
set_option maxRecDepth 100000 in
theorem c_X_row (l : Launch) {D : va_G} {z : Nat} {b : Nat → Nat} {C : fr_C} {H9 : Heap} (h9 : fr_W D hCl z b C H9) {cI cZ cJ cP cO : ClassId} {pg gr lf n an lc po : Nat} {lp : Nat → Option Nat} (h0 : C (0, 0) = some (.inr (0, fX b pg gr lf n an lc po))) (h8 : C (0, 8) = some (.inl (cP, 10, .inr (.inr (.inr (.inr lp)))))) {pa m9 ct : Nat} {fo nt : Int32} {fn fd fz : Nat → Int32} (hpg : xPg C cI cZ pa m9 ct fo nt fn fd fz) (j x9 : Nat) (hj : j < 10) (hlp : lp j = some pa) (hx9 : x9 < ct) (what : Int32) (hwh : what = 0 ∨ what = 1 ∨ what = 2 ∨ what = 3) : Met l y_X_row w_X_row ({ frames := 1, cells := 0, slots := 0, locals := 20 }) (va_Pc [.ref (b 0), .int (nI j), .int (nI x9), .int what] (fr_G D hCl (hTy cI cZ cJ cP cO) z b C)) (va_Qi (fun (r : Int32) (u : Unit) => rowV what r (fn x9) (fd x9) (fz x9) fo) (fun u t => fr_G D hCl (hTy cI cZ cJ cP cO) z ((fun _ => b) u) ((fun _ => C) u) t) (fr_A z)) 0 0 (fr_A z) := by
  refine Met.ofW (cc := b_X_row) (maxL := 5) (ret := (some .int)) (by decide) rfl ?_
  intro p e s m args below meth c s₁ B hml hv
  obtain ⟨rfl, hE, hK⟩ := hv
  have hx := B.exec
  have hb := B.bytes
  have hr := B.returns
  have hts := atoms_spec (ws := w_X_row) B.pre
  have hT : ∀ w ∈ hw_tbl, w.before _ s = true := fun w h => hts w (List.mem_cons_of_mem _ h)
  have hown : s.vm.findClass "HarvestSteps" = some m.cls := findClass_of_methodNamed B.named
  have hlocks := B.notSynchronized
  have hS : va_S (fr_A z) s.heap s.heap [] := va_S.rf
  have hl := lv_entry ([.ref (b 0), .int (nI j), .int (nI x9), .int what]) (n := 5) (Nat.le_of_ble_eq_true rfl)
  rw [lg_entry_eq]
  generalize (lg_sl ([.ref (b 0), .int (nI j), .int (nI x9), .int what]) ++ List.replicate (5 - (lg_sl ([.ref (b 0), .int (nI j), .int (nI x9), .int what])).length) Slot.unset).toArray = ls at hl ⊢
  have hl : lv_has ls 5 [(0, .ref (b 0)), (1, .int (nI j)), (2, .int (nI x9)), (3, .int what)] := hl
  refine lv_iload_n hx hb d_X_row_0 rfl (lv_at hl 1 rfl) ?_
  refine fr_calli (va_runS (As := [.int (nI j)]) (rest := []) ⟨hx, hb, hml, hown, hts⟩ (c_X_isHarvester l hE (nI j)) (va_cwS 1 hts (hw_goodS kw_174 kw_175 kw_21 kw_176) rfl rfl rfl (by decide +kernel) ⟨Nat.le_of_ble_eq_true rfl, Nat.le_of_ble_eq_true rfl⟩) ⟨fr_blind, fr_pre hE hK⟩ rfl rfl hl.1 rfl (lv_room (Nat.le_of_ble_eq_true rfl)) d_X_row_1 ⟨Nat.le_of_ble_eq_true rfl, Nat.le_of_ble_eq_true rfl⟩) hS (fun r_1 u_1 H locs w_1 hE hS => ?_)
  rcases w_1 with ⟨rfl, pw_1⟩ | ⟨rfl, pw_1⟩
  · skip
    refine lv_if_ne (tgt := 17) hx hb d_X_row_4 (by decide) (fun c_2 => ?_) (fun c_2 => ?_)
    · skip
      refine lv_aload_n hx hb d_X_row_17 rfl (lv_at hl 0 rfl) ?_
      refine fr_get (ci := 0) (Cn := hR_0) (T := hF_0) (N := 16) hx hb hT hi_0 hown hK hE (0, 0) rfl h0 rfl 13 (by decide) (hT _ kw_100) (fun _ h9 => h9) rfl d_X_row_18 ?_
      refine lv_iload_n hx hb d_X_row_21 rfl (lv_at hl 1 rfl) ?_
      refine fr_aald hx hb hK hE (0, 8) 3 rfl h8 rfl j (rfl) (by omega) (by decide) d_X_row_22 ?_
      cases hv : lp j with
      | none =>
        refine lv_astoreN (lv' := [(4, .null), (0, .ref (b 0)), (1, .int (nI j)), (2, .int (nI x9)), (3, .int what)]) hx hb d_X_row_23 hl (by decide) rfl (fun ls hl => ?_)
        refine lv_aloadN hx hb d_X_row_25 (lv_at hl 0 rfl) ?_
        refine lv_ifnonnullN hx hb d_X_row_27 ?_
        exact absurd (hlp.symm.trans hv) (by simp)
      | some pa9 =>
        obtain rfl : pa = pa9 := Option.some.inj (hlp.symm.trans hv)
        obtain ⟨pn, pd, pz, g1, g2, g3, g4, g5, g6⟩ := hpg
        refine lv_astore (lv' := [(4, .ref pa), (0, .ref (b 0)), (1, .int (nI j)), (2, .int (nI x9)), (3, .int what)]) hx hb d_X_row_23 hl (by decide) rfl (fun ls hl => ?_)
        refine lv_aload hx hb d_X_row_25 (lv_at hl 0 rfl) ?_
        refine lv_ifnonnull (tgt := 40) hx hb d_X_row_27 (by decide) ?_
        refine lv_iload_n hx hb d_X_row_40 rfl (lv_at hl 3 rfl) ?_
        refine lv_if_lt (tgt := 53) hx hb d_X_row_41 (by decide) (fun c_3 => ?_) (fun c_3 => ?_)
        · skip
          exact absurd c_3 (nI_pos (by omega))
        · skip
          refine lv_iload_n hx hb d_X_row_44 rfl (lv_at hl 3 rfl) ?_
          refine lv_aload hx hb d_X_row_45 (lv_at hl 0 rfl) ?_
          refine fr_get (ci := 2) (Cn := hR_2) (T := hF_2) (N := 6) hx hb hT hi_2 hown hK hE (1, pa) rfl g1 rfl 4 (by decide) (hT _ kw_248) (fun _ h9 => h9) rfl d_X_row_47 ?_
          refine lv_icmp_lt (tgt := 63) hx hb d_X_row_50 (by decide) (fun c_4 => ?_) (fun c_4 => ?_)
          · skip
            refine lv_iload_n hx hb d_X_row_63 rfl (lv_at hl 4 rfl) ?_
            by_cases s_5_0 : what = 0
            · skip
              refine lv_tableIn (tgt := 96) (off := 32) hx hb d_X_row_64 (by rw [s_5_0]; decide) (by rw [s_5_0]; decide) (by rw [s_5_0]; rfl) (by decide) ?_
              refine lv_aload hx hb d_X_row_96 (lv_at hl 0 rfl) ?_
              refine fr_get (ci := 2) (Cn := hR_2) (T := hF_2) (N := 6) hx hb hT hi_2 hown hK hE (1, pa) rfl g1 rfl 1 (by decide) (hT _ kw_242) (fun _ h9 => h9) rfl d_X_row_98 ?_
              refine lv_iload_n hx hb d_X_row_101 rfl (lv_at hl 3 rfl) ?_
              refine fr_iald hx hb hK hE (1, pn) 0 rfl g2 rfl x9 (rfl) (by omega) (by omega) d_X_row_102 ?_
              refine W.widen (k := 0) (n := 0) (Nat.le_of_ble_eq_true rfl) (Nat.le_of_ble_eq_true rfl) ?_
              exact W.iret (v := fn x9) hx hb hr (fun t9 ht9 hW9 => ⟨⟨fn x9, (), rfl, Or.inl ⟨s_5_0, rfl⟩, ⟨by rw [ht9]; exact hE, va_K.moved hW9.alike hK⟩⟩, hS.F ht9⟩) hS.2.2 d_X_row_103
            by_cases s_5_1 : what = 1
            · skip
              refine lv_tableIn (tgt := 104) (off := 40) hx hb d_X_row_64 (by rw [s_5_1]; decide) (by rw [s_5_1]; decide) (by rw [s_5_1]; rfl) (by decide) ?_
              refine lv_aload hx hb d_X_row_104 (lv_at hl 0 rfl) ?_
              refine fr_get (ci := 2) (Cn := hR_2) (T := hF_2) (N := 6) hx hb hT hi_2 hown hK hE (1, pa) rfl g1 rfl 2 (by decide) (hT _ kw_244) (fun _ h9 => h9) rfl d_X_row_106 ?_
              refine lv_iload_n hx hb d_X_row_109 rfl (lv_at hl 3 rfl) ?_
              refine fr_iald hx hb hK hE (1, pd) 0 rfl g3 rfl x9 (rfl) (by omega) (by omega) d_X_row_110 ?_
              refine W.widen (k := 0) (n := 0) (Nat.le_of_ble_eq_true rfl) (Nat.le_of_ble_eq_true rfl) ?_
              exact W.iret (v := fd x9) hx hb hr (fun t9 ht9 hW9 => ⟨⟨fd x9, (), rfl, Or.inr (Or.inl ⟨s_5_1, rfl⟩), ⟨by rw [ht9]; exact hE, va_K.moved hW9.alike hK⟩⟩, hS.F ht9⟩) hS.2.2 d_X_row_111
            by_cases s_5_2 : what = 2
            · skip
              refine lv_tableIn (tgt := 112) (off := 48) hx hb d_X_row_64 (by rw [s_5_2]; decide) (by rw [s_5_2]; decide) (by rw [s_5_2]; rfl) (by decide) ?_
              refine lv_aload hx hb d_X_row_112 (lv_at hl 0 rfl) ?_
              refine fr_get (ci := 2) (Cn := hR_2) (T := hF_2) (N := 6) hx hb hT hi_2 hown hK hE (1, pa) rfl g1 rfl 3 (by decide) (hT _ kw_246) (fun _ h9 => h9) rfl d_X_row_114 ?_
              refine lv_iload_n hx hb d_X_row_117 rfl (lv_at hl 3 rfl) ?_
              refine fr_zald hx hb hK hE (1, pz) 1 rfl g4 rfl x9 (rfl) (by omega) (by omega) d_X_row_118 ?_
              refine lv_if_eq (tgt := 126) hx hb d_X_row_119 (by decide) (fun c_6 => ?_) (fun c_6 => ?_)
              · skip
                refine lv_iconst (v := 0) hx hb d_X_row_126 (by decide) ?_
                refine W.widen (k := 0) (n := 0) (Nat.le_of_ble_eq_true rfl) (Nat.le_of_ble_eq_true rfl) ?_
                exact W.iret (v := 0) hx hb hr (fun t9 ht9 hW9 => ⟨⟨0, (), rfl, Or.inr (Or.inr (Or.inl ⟨s_5_2, by rw [if_pos c_6]⟩)), ⟨by rw [ht9]; exact hE, va_K.moved hW9.alike hK⟩⟩, hS.F ht9⟩) hS.2.2 d_X_row_127
              · skip
                refine lv_iconst (v := 1) hx hb d_X_row_122 (by decide) ?_
                refine lv_goto (tgt := 127) hx hb d_X_row_123 (by decide) ?_
                refine W.widen (k := 0) (n := 0) (Nat.le_of_ble_eq_true rfl) (Nat.le_of_ble_eq_true rfl) ?_
                exact W.iret (v := 1) hx hb hr (fun t9 ht9 hW9 => ⟨⟨1, (), rfl, Or.inr (Or.inr (Or.inl ⟨s_5_2, by rw [if_neg c_6]⟩)), ⟨by rw [ht9]; exact hE, va_K.moved hW9.alike hK⟩⟩, hS.F ht9⟩) hS.2.2 d_X_row_127
            by_cases s_5_3 : what = 3
            · skip
              refine lv_tableIn (tgt := 128) (off := 64) hx hb d_X_row_64 (by rw [s_5_3]; decide) (by rw [s_5_3]; decide) (by rw [s_5_3]; rfl) (by decide) ?_
              refine lv_aload hx hb d_X_row_128 (lv_at hl 0 rfl) ?_
              refine fr_get (ci := 2) (Cn := hR_2) (T := hF_2) (N := 6) hx hb hT hi_2 hown hK hE (1, pa) rfl g1 rfl 0 (by decide) (hT _ kw_240) (fun _ h9 => h9) rfl d_X_row_130 ?_
              refine W.widen (k := 0) (n := 0) (Nat.le_of_ble_eq_true rfl) (Nat.le_of_ble_eq_true rfl) ?_
              exact W.iret (v := fo) hx hb hr (fun t9 ht9 hW9 => ⟨⟨fo, (), rfl, Or.inr (Or.inr (Or.inr ⟨s_5_3, rfl⟩)), ⟨by rw [ht9]; exact hE, va_K.moved hW9.alike hK⟩⟩, hS.F ht9⟩) hS.2.2 d_X_row_133
            refine lv_tableOut (tgt := 134) hx hb d_X_row_64 (by have a_0 := lv_neT s_5_0 (a := 0) rfl; have a_1 := lv_neT s_5_1 (a := 1) rfl; have a_2 := lv_neT s_5_2 (a := 2) rfl; have a_3 := lv_neT s_5_3 (a := 3) rfl; omega) (by decide) ?_
            exact absurd hwh (by rintro (y | y | y | y); exact s_5_0 y; exact s_5_1 y; exact s_5_2 y; exact s_5_3 y)
          · skip
            exact absurd c_4 (fun q9 => q9 (nI_lt hx9 (by omega)))
    · skip
      exact absurd c_2 (by decide)
  · skip
    refine lv_if_ne (tgt := 17) hx hb d_X_row_4 (by decide) (fun c_7 => ?_) (fun c_7 => ?_)
    · skip
      exact absurd c_7 (by decide)
    · skip
      exact absurd ⟨j, hj, rfl⟩ pw_1
set_option maxHeartbeats 4000000 in
set_option maxRecDepth 100000 in
theorem c_X_row_no (l : Launch) (hl9 : l.stackTraces = false) {D : va_G} {z : Nat} {b : Nat → Nat} {C : fr_C} {H9 : Heap} (h9 : fr_W D hCl z b C H9) {sa : Nat → Nat} {cI cZ cJ cP cO : ClassId} {pg gr lf n an lc po : Nat} {lp : Nat → Option Nat} (h0 : C (0, 0) = some (.inr (0, fX b pg gr lf n an lc po))) (h8 : C (0, 8) = some (.inl (cP, 10, .inr (.inr (.inr (.inr lp)))))) (hlp : ∀ j pa, j < 10 → lp j = some pa → ∃ (m9 ct : Nat) (fo nt : Int32) (fn fd fz : Nat → Int32), xPg C cI cZ pa m9 ct fo nt fn fd fz) (h i what : Int32) (hbad : ¬ ∃ (j x9 pa m9 ct : Nat) (fo nt : Int32) (fn fd fz : Nat → Int32), j < 10 ∧ h = nI j ∧ lp j = some pa ∧ xPg C cI cZ pa m9 ct fo nt fn fd fz ∧ x9 < ct ∧ i = nI x9 ∧ (what = 0 ∨ what = 1 ∨ what = 2 ∨ what = 3)) : fr_MetT l y_X_row w_X_row ({ frames := 6, cells := 1, slots := 6, locals := 100 }) (va_Pc [.ref (b 0), .int h, .int i, .int what] (fr_GT sa D hCl (hTy cI cZ cJ cP cO) z b C)) (fr_QT D (hTy cI cZ cJ cP cO) z b C) 1 6 (fr_A z) := by
  refine fr_MetT.ofW (cc := b_X_row) (maxL := 5) (ret := (some .int)) (by decide) rfl ?_
  intro p e s m args below meth c s₁ B hml hv
  obtain ⟨rfl, ⟨hE, hK⟩, hX⟩ := hv
  have hx := B.exec
  have hb := B.bytes
  have hr := B.returns
  have hts := atoms_spec (ws := w_X_row) B.pre
  have hT : ∀ w ∈ hw_tbl, w.before _ s = true := fun w h => hts w (List.mem_cons_of_mem _ h)
  have hown : s.vm.findClass "HarvestSteps" = some m.cls := findClass_of_methodNamed B.named
  have hlocks := B.notSynchronized
  have hS : va_S (fr_A z) s.heap s.heap [] := va_S.rf
  have hl := lv_entry ([.ref (b 0), .int h, .int i, .int what]) (n := 5) (Nat.le_of_ble_eq_true rfl)
  rw [lg_entry_eq]
  generalize (lg_sl ([.ref (b 0), .int h, .int i, .int what]) ++ List.replicate (5 - (lg_sl ([.ref (b 0), .int h, .int i, .int what])).length) Slot.unset).toArray = ls at hl ⊢
  have hl : lv_has ls 5 [(0, .ref (b 0)), (1, .int h), (2, .int i), (3, .int what)] := hl
  have hcd := hts _ (List.mem_cons_self : Cond.code y_X_row b_X_row 5 (some .int) ∈ w_X_row)
  have hout : ∀ k9 : Nat, ∀ x ∈ c.exceptionTable.toList, covers x k9 = false := fun k9 => covers_of_empty (B.noHandlers hcd) _
  have hE0 : fr_W D hCl s.heap.size b (fun _ => none) s.heap := fr_W.none
  refine lv_iload_n hx hb d_X_row_0 rfl (lv_at hl 1 rfl) ?_
  refine fr_callP (va_runS (As := [.int h]) (rest := []) ⟨hx, hb, hml, hown, hts⟩ (c_X_isHarvester l hE0 (cI := cI) (cZ := cZ) (cJ := cJ) (cP := cP) (cO := cO) h) (va_cwS 1 hts (hw_goodS kw_174 kw_175 kw_21 kw_176) rfl rfl rfl (by decide +kernel) ⟨Nat.le_of_ble_eq_true rfl, Nat.le_of_ble_eq_true rfl⟩) ⟨fr_blind, fr_pre hE0 hK⟩ rfl rfl hl.1 rfl (lv_room (Nat.le_of_ble_eq_true rfl)) d_X_row_1 ⟨Nat.le_of_ble_eq_true rfl, Nat.le_of_ble_eq_true rfl⟩) (fun r_1 u_1 w_1 => ?_)
  rcases w_1 with ⟨rfl, p_1⟩ | ⟨rfl, p_1⟩
  · skip
    obtain ⟨j_1, hj_1, rfl⟩ := p_1
    refine lv_if_ne (tgt := 17) hx hb d_X_row_4 (by decide) (fun c_1 => ?_) (fun c_1 => ?_)
    · skip
      refine lv_aload_n hx hb d_X_row_17 rfl (lv_at hl 0 rfl) ?_
      refine fr_get (ci := 0) (Cn := hR_0) (T := hF_0) (N := 16) hx hb hT hi_0 hown hK hE (0, 0) rfl h0 rfl 13 (by decide) (hT _ kw_100) (fun _ h9 => h9) rfl d_X_row_18 ?_
      refine lv_iload_n hx hb d_X_row_21 rfl (lv_at hl 1 rfl) ?_
      refine fr_aald hx hb hK hE (0, 8) 3 rfl h8 rfl j_1 (rfl) (by omega) (by decide) d_X_row_22 ?_
      cases hv : lp j_1 with
      | none =>
        refine lv_astoreN (lv' := [(4, .null), (0, .ref (b 0)), (1, .int (nI j_1)), (2, .int i), (3, .int what)]) hx hb d_X_row_23 hl (by decide) rfl (fun ls hl => ?_)
        refine lv_aloadN hx hb d_X_row_25 (lv_at hl 0 rfl) ?_
        refine lv_ifnonnullN hx hb d_X_row_27 ?_
        exact fr_throw hx hb hl9 hown (hT _ kw_398) (hT _ kw_38) hX hX.2.2.2.2.1 (hl.1.trans hml.symm) d_X_row_30 d_X_row_33 d_X_row_34 d_X_row_36 d_X_row_39 (hout _) (Nat.le_of_ble_eq_true rfl) (Nat.le_of_ble_eq_true rfl) (Nat.le_of_ble_eq_true rfl) (Nat.le_of_ble_eq_true rfl) hlocks (fun q ce t h1 h2 h3 h4 h5 h6 => ⟨q, ce, rfl, h1, h2, h3, ⟨hE.grown h5 h6, va_K.moved h4.alike hK⟩, h5, fun i hi _ => h6 i hi⟩)
      | some pa =>
        obtain ⟨m9, ct, fo, nt, fn, fd, fz, pn, pd, pz, g1, g2, g3, g4, g5, g6⟩ := hlp _ _ hj_1 hv
        refine lv_astore (lv' := [(4, .ref pa), (0, .ref (b 0)), (1, .int (nI j_1)), (2, .int i), (3, .int what)]) hx hb d_X_row_23 hl (by decide) rfl (fun ls hl => ?_)
        refine lv_aload hx hb d_X_row_25 (lv_at hl 0 rfl) ?_
        refine lv_ifnonnull (tgt := 40) hx hb d_X_row_27 (by decide) ?_
        refine lv_iload_n hx hb d_X_row_40 rfl (lv_at hl 3 rfl) ?_
        refine lv_if_lt (tgt := 53) hx hb d_X_row_41 (by decide) (fun c_2 => ?_) (fun c_2 => ?_)
        · skip
          exact fr_throw hx hb hl9 hown (hT _ kw_398) (hT _ kw_38) hX hX.2.2.2.2.2.1 (hl.1.trans hml.symm) d_X_row_53 d_X_row_56 d_X_row_57 d_X_row_59 d_X_row_62 (hout _) (Nat.le_of_ble_eq_true rfl) (Nat.le_of_ble_eq_true rfl) (Nat.le_of_ble_eq_true rfl) (Nat.le_of_ble_eq_true rfl) hlocks (fun q ce t h1 h2 h3 h4 h5 h6 => ⟨q, ce, rfl, h1, h2, h3, ⟨hE.grown h5 h6, va_K.moved h4.alike hK⟩, h5, fun i hi _ => h6 i hi⟩)
        · skip
          refine lv_iload_n hx hb d_X_row_44 rfl (lv_at hl 3 rfl) ?_
          refine lv_aload hx hb d_X_row_45 (lv_at hl 0 rfl) ?_
          refine fr_get (ci := 2) (Cn := hR_2) (T := hF_2) (N := 6) hx hb hT hi_2 hown hK hE (1, pa) rfl g1 rfl 4 (by decide) (hT _ kw_248) (fun _ h9 => h9) rfl d_X_row_47 ?_
          refine lv_icmp_lt (tgt := 63) hx hb d_X_row_50 (by decide) (fun c_3 => ?_) (fun c_3 => ?_)
          · skip
            refine lv_iload_n hx hb d_X_row_63 rfl (lv_at hl 4 rfl) ?_
            by_cases s_4_0 : what = 0
            · skip
              refine lv_tableIn (tgt := 96) (off := 32) hx hb d_X_row_64 (by rw [s_4_0]; decide) (by rw [s_4_0]; decide) (by rw [s_4_0]; rfl) (by decide) ?_
              obtain ⟨x9, hx9, rfl⟩ : inN i ct := inN_yes (by omega) c_2 (Int32.not_le.mpr c_3)
              exact absurd ⟨j_1, x9, pa, m9, ct, fo, nt, fn, fd, fz, hj_1, rfl, hv, ⟨pn, pd, pz, g1, g2, g3, g4, g5, g6⟩, hx9, rfl, by rw [s_4_0]; decide⟩ hbad
            by_cases s_4_1 : what = 1
            · skip
              refine lv_tableIn (tgt := 104) (off := 40) hx hb d_X_row_64 (by rw [s_4_1]; decide) (by rw [s_4_1]; decide) (by rw [s_4_1]; rfl) (by decide) ?_
              obtain ⟨x9, hx9, rfl⟩ : inN i ct := inN_yes (by omega) c_2 (Int32.not_le.mpr c_3)
              exact absurd ⟨j_1, x9, pa, m9, ct, fo, nt, fn, fd, fz, hj_1, rfl, hv, ⟨pn, pd, pz, g1, g2, g3, g4, g5, g6⟩, hx9, rfl, by rw [s_4_1]; decide⟩ hbad
            by_cases s_4_2 : what = 2
            · skip
              refine lv_tableIn (tgt := 112) (off := 48) hx hb d_X_row_64 (by rw [s_4_2]; decide) (by rw [s_4_2]; decide) (by rw [s_4_2]; rfl) (by decide) ?_
              obtain ⟨x9, hx9, rfl⟩ : inN i ct := inN_yes (by omega) c_2 (Int32.not_le.mpr c_3)
              exact absurd ⟨j_1, x9, pa, m9, ct, fo, nt, fn, fd, fz, hj_1, rfl, hv, ⟨pn, pd, pz, g1, g2, g3, g4, g5, g6⟩, hx9, rfl, by rw [s_4_2]; decide⟩ hbad
            by_cases s_4_3 : what = 3
            · skip
              refine lv_tableIn (tgt := 128) (off := 64) hx hb d_X_row_64 (by rw [s_4_3]; decide) (by rw [s_4_3]; decide) (by rw [s_4_3]; rfl) (by decide) ?_
              obtain ⟨x9, hx9, rfl⟩ : inN i ct := inN_yes (by omega) c_2 (Int32.not_le.mpr c_3)
              exact absurd ⟨j_1, x9, pa, m9, ct, fo, nt, fn, fd, fz, hj_1, rfl, hv, ⟨pn, pd, pz, g1, g2, g3, g4, g5, g6⟩, hx9, rfl, by rw [s_4_3]; decide⟩ hbad
            refine lv_tableOut (tgt := 134) hx hb d_X_row_64 (by have a_0 := lv_neT s_4_0 (a := 0) rfl; have a_1 := lv_neT s_4_1 (a := 1) rfl; have a_2 := lv_neT s_4_2 (a := 2) rfl; have a_3 := lv_neT s_4_3 (a := 3) rfl; omega) (by decide) ?_
            exact fr_throw hx hb hl9 hown (hT _ kw_398) (hT _ kw_38) hX hX.2.2.2.2.2.2 (hl.1.trans hml.symm) d_X_row_134 d_X_row_137 d_X_row_138 d_X_row_140 d_X_row_143 (hout _) (Nat.le_of_ble_eq_true rfl) (Nat.le_of_ble_eq_true rfl) (Nat.le_of_ble_eq_true rfl) (Nat.le_of_ble_eq_true rfl) hlocks (fun q ce t h1 h2 h3 h4 h5 h6 => ⟨q, ce, rfl, h1, h2, h3, ⟨hE.grown h5 h6, va_K.moved h4.alike hK⟩, h5, fun i hi _ => h6 i hi⟩)
          · skip
            exact fr_throw hx hb hl9 hown (hT _ kw_398) (hT _ kw_38) hX hX.2.2.2.2.2.1 (hl.1.trans hml.symm) d_X_row_53 d_X_row_56 d_X_row_57 d_X_row_59 d_X_row_62 (hout _) (Nat.le_of_ble_eq_true rfl) (Nat.le_of_ble_eq_true rfl) (Nat.le_of_ble_eq_true rfl) (Nat.le_of_ble_eq_true rfl) hlocks (fun q ce t h1 h2 h3 h4 h5 h6 => ⟨q, ce, rfl, h1, h2, h3, ⟨hE.grown h5 h6, va_K.moved h4.alike hK⟩, h5, fun i hi _ => h6 i hi⟩)
    · skip
      exact absurd c_1 (by decide)
  · skip
    refine lv_if_ne (tgt := 17) hx hb d_X_row_4 (by decide) (fun c_5 => ?_) (fun c_5 => ?_)
    · skip
      exact absurd c_5 (by decide)
    · skip
      exact fr_throw hx hb hl9 hown (hT _ kw_398) (hT _ kw_38) hX hX.2.2.2.1 (hl.1.trans hml.symm) d_X_row_7 d_X_row_10 d_X_row_11 d_X_row_13 d_X_row_16 (hout _) (Nat.le_of_ble_eq_true rfl) (Nat.le_of_ble_eq_true rfl) (Nat.le_of_ble_eq_true rfl) (Nat.le_of_ble_eq_true rfl) hlocks (fun q ce t h1 h2 h3 h4 h5 h6 => ⟨q, ce, rfl, h1, h2, h3, ⟨hE.grown h5 h6, va_K.moved h4.alike hK⟩, h5, fun i hi _ => h6 i hi⟩)
