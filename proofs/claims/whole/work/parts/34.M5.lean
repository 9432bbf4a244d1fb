theorem in_okSet {v : Int32} : (-1 ≤ v ∧ v ≤ 9) ↔ okSet v := by
  constructor
  · rintro ⟨a, c⟩
    by_cases h : v = -1
    · exact Or.inl h
    · refine Or.inr (inN_yes (n := 10) (by decide) (fun q => h ?_) (fun q => ?_))
      · have e1 := Int32.le_iff_toInt_le.mp a
        have e2 := Int32.lt_iff_toInt_lt.mp q
        apply Int32.toInt_inj.mp
        have e3 : (-1 : Int32).toInt = -1 := rfl
        have e4 : (0 : Int32).toInt = 0 := rfl
        omega
      · have e1 := Int32.le_iff_toInt_le.mp c
        have e2 := Int32.le_iff_toInt_le.mp q
        have e3 : (9 : Int32).toInt = 9 := rfl
        rw [nI_toInt (by decide)] at e2
        omega
  · rintro (rfl | ⟨j, hj, rfl⟩)
    · exact ⟨by decide, by decide⟩
    · constructor
      · apply Int32.le_iff_toInt_le.mpr
        rw [nI_toInt (by omega)]
        have e3 : (-1 : Int32).toInt = -1 := rfl
        omega
      · apply Int32.le_iff_toInt_le.mpr
        rw [nI_toInt (by omega)]
        have e3 : (9 : Int32).toInt = 9 := rfl
        omega
theorem in4_3 {v : Int32} (h : inN v 4) (h0 : ¬ v = 0) (h1 : ¬ v = 1) (h2 : ¬ v = 2) : v = 3 := by
  obtain ⟨j, hj, rfl⟩ := h
  rcases (show j = 0 ∨ j = 1 ∨ j = 2 ∨ j = 3 by omega) with rfl | rfl | rfl | rfl
  · exact absurd rfl h0
  · exact absurd rfl h1
  · exact absurd rfl h2
  · rfl
def spanOk (gr : Nat) (fr to : Int32) : Prop := okDay gr fr ∧ okDay gr to ∧ fr ≤ to
/-- what is against a list, and its code; k: how many records it would have -/
def lsErr (gr lc k : Nat) (hd : Nat → Int32) (h f fr to of t r : Int32) : Prop :=
  (¬ inN h 10 ∧ r = -1) ∨ (inN h 10 ∧ ¬ inN t 1000000001 ∧ r = -2) ∨ (inN h 10 ∧ inN t 1000000001 ∧ ¬ spanOk gr fr to ∧ r = -11) ∨ (inN h 10 ∧ inN t 1000000001 ∧ spanOk gr fr to ∧ ¬ isHeldP hd f ∧ r = -12) ∨ (inN h 10 ∧ inN t 1000000001 ∧ spanOk gr fr to ∧ isHeldP hd f ∧ ¬ okSet of ∧ r = -13) ∨ (inN h 10 ∧ inN t 1000000001 ∧ spanOk gr fr to ∧ isHeldP hd f ∧ okSet of ∧ k = 0 ∧ r = -14) ∨ (inN h 10 ∧ inN t 1000000001 ∧ spanOk gr fr to ∧ isHeldP hd f ∧ okSet of ∧ 0 < k ∧ 30 ≤ lc ∧ r = -4)
def lsOk (gr lc k : Nat) (hd : Nat → Int32) (h f fr to of t : Int32) : Prop := inN h 10 ∧ inN t 1000000001 ∧ spanOk gr fr to ∧ isHeldP hd f ∧ okSet of ∧ 0 < k ∧ lc < 30
/-- the reference's world when a list is made, ahead of its first page -/
def mLs (C : fr_C) (cI : ClassId) (b : Nat → Nat) (pg gr lf an n lc ps rw tk po : Nat) (li' mn si fo ol : Nat → Int32) (k : Nat) (f h : Int32) : fr_C :=
  fr_up (fr_up (fr_up (fr_up (fr_up (fr_up (fr_up C (0, 40) (.inr (5, fM b 0 pg gr lf an n lc ps rw tk po))) (0, 56) (.inl (cI, 4500, .inl li'))) (0, 52) (.inl (cI, 30, .inl (upd mn lc (nI k))))) (0, 53) (.inl (cI, 30, .inl (upd si lc (nI an))))) (0, 54) (.inl (cI, 30, .inl (upd fo lc f)))) (0, 55) (.inl (cI, 30, .inl (upd ol lc h)))) (0, 40) (.inr (5, fM b 0 pg gr lf an n (lc + 1) ps rw tk po))
set_option maxHeartbeats 4000000 in
set_option maxRecDepth 100000 in
theorem c_M_row (l : Launch) {D : va_G} {z : Nat} {b : Nat → Nat} {C : fr_C} {H9 : Heap} (h9 : fr_W D hCl z b C H9) {cI cZ cJ cP cO : ClassId} {th : Int32} {pg gr lf an n lc ps rw tk po : Nat} {fo : Nat → Int32} {pl : Nat → Int32} {pr : Nat → Int32} {pa : Nat → Int32} {rr : Nat → Int32} {rd : Nat → Int32} {rg : Nat → Int32} {aw : Nat → Int32} (m0 : C (0, 40) = some (.inr (5, fM b th pg gr lf an n lc ps rw tk po))) (m14 : C (0, 54) = some (.inl (cI, 30, .inl fo))) (m18 : C (0, 58) = some (.inl (cI, 4600, .inl pl))) (m20 : C (0, 60) = some (.inl (cI, 4600, .inl pr))) (m21 : C (0, 61) = some (.inl (cI, 4600, .inl pa))) (m24 : C (0, 64) = some (.inl (cI, 4500, .inl rr))) (m25 : C (0, 65) = some (.inl (cI, 4500, .inl rd))) (m26 : C (0, 66) = some (.inl (cZ, 4500, .inl rg))) (m31 : C (0, 71) = some (.inl (cI, 10, .inl aw))) (haw : ∀ j, j < 10 → ¬ aw j < 0 → ∃ Q c a L : Nat, Q < 4600 ∧ c ≤ 4500 ∧ a + c ≤ 4500 ∧ L < 30 ∧ aw j = nI Q ∧ pr Q = nI c ∧ pa Q = nI a ∧ pl Q = nI L) (h i what : Int32) : Met l y_M_row w_M_row ({ frames := 1, cells := 0, slots := 0, locals := 22 }) (va_Pc [.ref (b 40), .int h, .int i, .int what] (fr_G D hCl (hTy cI cZ cJ cP cO) z b C)) (va_Qi (fun (r : Int32) (u : Int32) => (u = 1 ∧ r = 0 ∧ (¬ inN h 10 ∨ ∃ j : Nat, j < 10 ∧ h = nI j ∧ (aw j < 0 ∨ ∃ Q c : Nat, Q < 4600 ∧ c ≤ 4500 ∧ aw j = nI Q ∧ pr Q = nI c ∧ (¬ inN what 4 ∨ ¬ inN i c)))) ∨ (u = 0 ∧ ∃ j Q c x L a : Nat, j < 10 ∧ h = nI j ∧ Q < 4600 ∧ c ≤ 4500 ∧ aw j = nI Q ∧ pr Q = nI c ∧ x < c ∧ i = nI x ∧ a ≤ 4500 ∧ L < 30 ∧ pa Q = nI a ∧ pl Q = nI L ∧ ((what = 0 ∧ r = rr (a + x)) ∨ (what = 1 ∧ r = rd (a + x)) ∨ (what = 2 ∧ r = if rg (a + x) = 0 then 0 else 1) ∨ (what = 3 ∧ r = fo L)))) (fun u t => fr_G D hCl (hTy cI cZ cJ cP cO) z ((fun _ => b) u) ((fun u => fr_up C (0, 40) (.inr (5, fM b u pg gr lf an n lc ps rw tk po))) u) t) (fr_A z)) 0 0 (fr_A z) := by
  refine Met.ofW (cc := b_M_row) (maxL := 7) (ret := (some .int)) (by decide) rfl ?_
  intro p e s m args below meth c s₁ B hml hv
  obtain ⟨rfl, hE, hK⟩ := hv
  have hx := B.exec
  have hb := B.bytes
  have hr := B.returns
  have hts := atoms_spec (ws := w_M_row) B.pre
  have hT : ∀ w ∈ hw_tbl, w.before _ s = true := fun w h => hts w (List.mem_cons_of_mem _ h)
  have hown : s.vm.findClass "HarvestStepsModel" = some m.cls := findClass_of_methodNamed B.named
  have hlocks := B.notSynchronized
  have hS : va_S (fr_A z) s.heap s.heap [] := va_S.rf
  have hl := lv_entry ([.ref (b 40), .int h, .int i, .int what]) (n := 7) (Nat.le_of_ble_eq_true rfl)
  rw [lg_entry_eq]
  generalize (lg_sl ([.ref (b 40), .int h, .int i, .int what]) ++ List.replicate (7 - (lg_sl ([.ref (b 40), .int h, .int i, .int what])).length) Slot.unset).toArray = ls at hl ⊢
  have hl : lv_has ls 7 [(0, .ref (b 40)), (1, .int h), (2, .int i), (3, .int what)] := hl
  refine lv_iload_n hx hb d_M_row_0 rfl (lv_at hl 1 rfl) ?_
  refine lv_iconst (v := 0) hx hb d_M_row_1 (by decide) ?_
  refine lv_bipush (v := 9) hx hb d_M_row_2 (by decide) ?_
  refine fr_calli (va_runS (As := [.int h, .int 0, .int 9]) (rest := []) ⟨hx, hb, hml, hown, hts⟩ (c_M_in l hE h 0 9) (va_cwS 3 hts (hw_goodS kw_585 kw_586 kw_26 kw_587) rfl rfl rfl (by decide +kernel) ⟨Nat.le_of_ble_eq_true rfl, Nat.le_of_ble_eq_true rfl⟩) ⟨fr_blind, fr_pre hE hK⟩ rfl rfl hl.1 rfl (lv_room (Nat.le_of_ble_eq_true rfl)) d_M_row_4 ⟨Nat.le_of_ble_eq_true rfl, Nat.le_of_ble_eq_true rfl⟩) hS (fun r_1 u_1 H locs w_1 hE hS => ?_)
  rcases w_1 with ⟨rfl, pw_1⟩ | ⟨rfl, pw_1⟩
  · skip
    replace pw_1 := (in0 (m := 10) (by decide) (by decide)).mp pw_1
    obtain ⟨j_1, hj_1, rfl⟩ := pw_1
    refine lv_if_eq (tgt := 32) hx hb d_M_row_7 (by decide) (fun c_2 => ?_) (fun c_2 => ?_)
    · skip
      exact absurd c_2 (by decide)
    · skip
      refine lv_aload_n hx hb d_M_row_10 rfl (lv_at hl 0 rfl) ?_
      refine fr_get (ci := 5) (Cn := hR_5) (T := hF_5) (N := 34) hx hb hT hi_5 hown hK hE (0, 40) rfl m0 rfl 31 (by decide) (hT _ kw_505) (fun _ h9 => h9) rfl d_M_row_11 ?_
      refine lv_iload_n hx hb d_M_row_14 rfl (lv_at hl 1 rfl) ?_
      refine fr_iald hx hb hK hE (0, 71) 0 rfl m31 rfl j_1 (rfl) (by omega) (by decide) d_M_row_15 ?_
      refine lv_if_lt (tgt := 32) hx hb d_M_row_16 (by decide) (fun c_3 => ?_) (fun c_3 => ?_)
      · skip
        refine lv_iconst (v := 0) hx hb d_M_row_32 (by decide) ?_
        refine lv_istore (lv' := [(4, .int 0), (0, .ref (b 40)), (1, .int (nI j_1)), (2, .int i), (3, .int what)]) hx hb d_M_row_33 hl (by decide) rfl (fun ls hl => ?_)
        refine lv_aload_n hx hb d_M_row_35 rfl (lv_at hl 1 rfl) ?_
        refine lv_iload hx hb d_M_row_36 (lv_at hl 0 rfl) ?_
        refine lv_if_eq (tgt := 66) hx hb d_M_row_38 (by decide) (fun c_4 => ?_) (fun c_4 => ?_)
        · skip
          refine lv_iconst (v := 1) hx hb d_M_row_66 (by decide) ?_
          refine fr_put (ci := 5) (v := .int 1) (ty := .int) (Cn := hR_5) (T := hF_5) (N := 34) hx hb hT hi_5 hy_5 ho_5 hn_5 hown hK hE hS (0, 40) rfl m0 rfl 0 (by decide) (hT _ kw_474) (fun _ h9 => h9) rfl (by decide +kernel) rfl rfl (Nat.le_of_ble_eq_true rfl) d_M_row_67 (fun H locs hE hS => ?_)
          refine lv_aload_n hx hb d_M_row_70 rfl (lv_at hl 1 rfl) ?_
          refine fr_get (ci := 5) (Cn := hR_5) (T := hF_5) (N := 34) hx hb hT hi_5 hown hK hE (0, 40) rfl rfl rfl 0 (by decide) (hT _ kw_474) (fun _ h9 => h9) rfl d_M_row_71 ?_
          refine lv_if_le (tgt := 79) hx hb d_M_row_74 (by decide) (fun c_5 => ?_) (fun c_5 => ?_)
          · skip
            exact absurd c_5 (by decide)
          · skip
            refine lv_iconst (v := 0) hx hb d_M_row_77 (by decide) ?_
            refine W.widen (k := 0) (n := 0) (Nat.le_of_ble_eq_true rfl) (Nat.le_of_ble_eq_true rfl) ?_
            exact W.iret (v := 0) hx hb hr (fun t9 ht9 hW9 => ⟨⟨0, 1, rfl, Or.inl ⟨rfl, rfl, Or.inr ⟨j_1, hj_1, rfl, Or.inl c_3⟩⟩, ⟨by rw [ht9]; exact hE, va_K.moved hW9.alike hK⟩⟩, hS.F ht9⟩) hS.2.2 d_M_row_78
        · skip
          exact absurd c_4 (by decide)
      · skip
        obtain ⟨j_2, k_2, a_2, l_2, hj_2, hk_2, hak_2, hl_2, e_2, e_3, e_4, e_5⟩ := haw j_1 hj_1 c_3
        refine lv_iload_n hx hb d_M_row_19 rfl (lv_at hl 3 rfl) ?_
        refine lv_iconst (v := 0) hx hb d_M_row_20 (by decide) ?_
        refine lv_iconst (v := 3) hx hb d_M_row_21 (by decide) ?_
        refine fr_calli (va_runS (As := [.int what, .int 0, .int 3]) (rest := []) ⟨hx, hb, hml, hown, hts⟩ (c_M_in l hE what 0 3) (va_cwS 3 hts (hw_goodS kw_585 kw_586 kw_26 kw_587) rfl rfl rfl (by decide +kernel) ⟨Nat.le_of_ble_eq_true rfl, Nat.le_of_ble_eq_true rfl⟩) ⟨fr_blind, fr_pre hE hK⟩ rfl rfl hl.1 rfl (lv_room (Nat.le_of_ble_eq_true rfl)) d_M_row_22 ⟨Nat.le_of_ble_eq_true rfl, Nat.le_of_ble_eq_true rfl⟩) hS (fun r_6 u_6 H locs w_6 hE hS => ?_)
        rcases w_6 with ⟨rfl, pw_6⟩ | ⟨rfl, pw_6⟩
        · skip
          replace pw_6 := (in0 (m := 4) (by decide) (by decide)).mp pw_6
          refine lv_if_eq (tgt := 32) hx hb d_M_row_25 (by decide) (fun c_7 => ?_) (fun c_7 => ?_)
          · skip
            exact absurd c_7 (by decide)
          · skip
            refine lv_iconst (v := 1) hx hb d_M_row_28 (by decide) ?_
            refine lv_goto (tgt := 33) hx hb d_M_row_29 (by decide) ?_
            refine lv_istore (lv' := [(4, .int 1), (0, .ref (b 40)), (1, .int (nI j_1)), (2, .int i), (3, .int what)]) hx hb d_M_row_33 hl (by decide) rfl (fun ls hl => ?_)
            refine lv_aload_n hx hb d_M_row_35 rfl (lv_at hl 1 rfl) ?_
            refine lv_iload hx hb d_M_row_36 (lv_at hl 0 rfl) ?_
            refine lv_if_eq (tgt := 66) hx hb d_M_row_38 (by decide) (fun c_8 => ?_) (fun c_8 => ?_)
            · skip
              exact absurd c_8 (by decide)
            · skip
              refine lv_iload_n hx hb d_M_row_41 rfl (lv_at hl 3 rfl) ?_
              refine lv_iconst (v := 0) hx hb d_M_row_42 (by decide) ?_
              refine lv_aload_n hx hb d_M_row_43 rfl (lv_at hl 1 rfl) ?_
              refine fr_get (ci := 5) (Cn := hR_5) (T := hF_5) (N := 34) hx hb hT hi_5 hown hK hE (0, 40) rfl m0 rfl 20 (by decide) (hT _ kw_494) (fun _ h9 => h9) rfl d_M_row_44 ?_
              refine lv_aload_n hx hb d_M_row_47 rfl (lv_at hl 1 rfl) ?_
              refine fr_get (ci := 5) (Cn := hR_5) (T := hF_5) (N := 34) hx hb hT hi_5 hown hK hE (0, 40) rfl m0 rfl 31 (by decide) (hT _ kw_505) (fun _ h9 => h9) rfl d_M_row_48 ?_
              refine lv_iload_n hx hb d_M_row_51 rfl (lv_at hl 2 rfl) ?_
              refine fr_iald hx hb hK hE (0, 71) 0 rfl m31 rfl j_1 (rfl) (by omega) (by decide) d_M_row_52 ?_
              refine lv_topi (fun y_9 ey_9 => ?_)
              obtain rfl : y_9 = nI j_2 := ey_9.trans (e_2)
              refine fr_iald hx hb hK hE (0, 60) 0 rfl m20 rfl j_2 (rfl) (by omega) (by decide) d_M_row_53 ?_
              refine lv_topi (fun y_10 ey_10 => ?_)
              obtain rfl : y_10 = nI k_2 := ey_10.trans (e_3)
              refine lv_iconst (v := 1) hx hb d_M_row_54 (by decide) ?_
              refine lv_isub hx hb d_M_row_55 ?_
              refine fr_calli (va_runS (As := [.int i, .int 0, .int ((nI k_2) - 1)]) (rest := [.ref (b 40)]) ⟨hx, hb, hml, hown, hts⟩ (c_M_in l hE i 0 (nI k_2 - 1)) (va_cwS 3 hts (hw_goodS kw_585 kw_586 kw_26 kw_587) rfl rfl rfl (by decide +kernel) ⟨Nat.le_of_ble_eq_true rfl, Nat.le_of_ble_eq_true rfl⟩) ⟨fr_blind, fr_pre hE hK⟩ rfl rfl hl.1 rfl (lv_room (Nat.le_of_ble_eq_true rfl)) d_M_row_56 ⟨Nat.le_of_ble_eq_true rfl, Nat.le_of_ble_eq_true rfl⟩) hS (fun r_11 u_11 H locs w_11 hE hS => ?_)
              rcases w_11 with ⟨rfl, pw_11⟩ | ⟨rfl, pw_11⟩
              · skip
                replace pw_11 := (in0 (m := k_2) (nI_m1 (by omega)) (by omega)).mp pw_11
                obtain ⟨x_2, hx_2, rfl⟩ := pw_11
                refine lv_if_eq (tgt := 66) hx hb d_M_row_59 (by decide) (fun c_12 => ?_) (fun c_12 => ?_)
                · skip
                  exact absurd c_12 (by decide)
                · skip
                  refine lv_iconst (v := 0) hx hb d_M_row_62 (by decide) ?_
                  refine lv_goto (tgt := 67) hx hb d_M_row_63 (by decide) ?_
                  refine fr_put (ci := 5) (v := .int 0) (ty := .int) (Cn := hR_5) (T := hF_5) (N := 34) hx hb hT hi_5 hy_5 ho_5 hn_5 hown hK hE hS (0, 40) rfl m0 rfl 0 (by decide) (hT _ kw_474) (fun _ h9 => h9) rfl (by decide +kernel) rfl rfl (Nat.le_of_ble_eq_true rfl) d_M_row_67 (fun H locs hE hS => ?_)
                  refine lv_aload_n hx hb d_M_row_70 rfl (lv_at hl 1 rfl) ?_
                  refine fr_get (ci := 5) (Cn := hR_5) (T := hF_5) (N := 34) hx hb hT hi_5 hown hK hE (0, 40) rfl rfl rfl 0 (by decide) (hT _ kw_474) (fun _ h9 => h9) rfl d_M_row_71 ?_
                  refine lv_if_le (tgt := 79) hx hb d_M_row_74 (by decide) (fun c_13 => ?_) (fun c_13 => ?_)
                  · skip
                    refine lv_aload_n hx hb d_M_row_79 rfl (lv_at hl 1 rfl) ?_
                    refine fr_get (ci := 5) (Cn := hR_5) (T := hF_5) (N := 34) hx hb hT hi_5 hown hK hE (0, 40) rfl rfl rfl 31 (by decide) (hT _ kw_505) (fun _ h9 => h9) rfl d_M_row_80 ?_
                    refine lv_iload_n hx hb d_M_row_83 rfl (lv_at hl 2 rfl) ?_
                    refine fr_iald hx hb hK hE (0, 71) 0 rfl m31 rfl j_1 (rfl) (by omega) (by decide) d_M_row_84 ?_
                    refine lv_topi (fun y_14 ey_14 => ?_)
                    obtain rfl : y_14 = nI j_2 := ey_14.trans (e_2)
                    refine lv_istore (lv' := [(5, .int (nI j_2)), (4, .int 1), (0, .ref (b 40)), (1, .int (nI j_1)), (2, .int (nI x_2)), (3, .int what)]) hx hb d_M_row_85 hl (by decide) rfl (fun ls hl => ?_)
                    refine lv_aload_n hx hb d_M_row_87 rfl (lv_at hl 2 rfl) ?_
                    refine fr_get (ci := 5) (Cn := hR_5) (T := hF_5) (N := 34) hx hb hT hi_5 hown hK hE (0, 40) rfl rfl rfl 21 (by decide) (hT _ kw_495) (fun _ h9 => h9) rfl d_M_row_88 ?_
                    refine lv_iload hx hb d_M_row_91 (lv_at hl 0 rfl) ?_
                    refine fr_iald hx hb hK hE (0, 61) 0 rfl m21 rfl j_2 (rfl) (by omega) (by decide) d_M_row_93 ?_
                    refine lv_topi (fun y_15 ey_15 => ?_)
                    obtain rfl : y_15 = nI a_2 := ey_15.trans (e_4)
                    refine lv_iload_n hx hb d_M_row_94 rfl (lv_at hl 4 rfl) ?_
                    refine lv_iadd hx hb d_M_row_95 ?_
                    refine lv_topi (fun y_16 ey_16 => ?_)
                    obtain rfl : y_16 = nI (a_2 + x_2) := ey_16.trans (nI_add _ _)
                    refine lv_istore (lv' := [(6, .int (nI (a_2 + x_2))), (5, .int (nI j_2)), (4, .int 1), (0, .ref (b 40)), (1, .int (nI j_1)), (2, .int (nI x_2)), (3, .int what)]) hx hb d_M_row_96 hl (by decide) rfl (fun ls hl => ?_)
                    refine lv_iload_n hx hb d_M_row_98 rfl (lv_at hl 6 rfl) ?_
                    refine lv_if_ne (tgt := 112) hx hb d_M_row_99 (by decide) (fun c_17 => ?_) (fun c_17 => ?_)
                    · skip
                      refine lv_iload_n hx hb d_M_row_112 rfl (lv_at hl 6 rfl) ?_
                      refine lv_iconst (v := 1) hx hb d_M_row_113 (by decide) ?_
                      refine lv_icmp_ne (tgt := 127) hx hb d_M_row_114 (by decide) (fun c_18 => ?_) (fun c_18 => ?_)
                      · skip
                        refine lv_iload_n hx hb d_M_row_127 rfl (lv_at hl 6 rfl) ?_
                        refine lv_iconst (v := 2) hx hb d_M_row_128 (by decide) ?_
                        refine lv_icmp_ne (tgt := 150) hx hb d_M_row_129 (by decide) (fun c_19 => ?_) (fun c_19 => ?_)
                        · skip
                          refine lv_aload_n hx hb d_M_row_150 rfl (lv_at hl 3 rfl) ?_
                          refine fr_get (ci := 5) (Cn := hR_5) (T := hF_5) (N := 34) hx hb hT hi_5 hown hK hE (0, 40) rfl rfl rfl 14 (by decide) (hT _ kw_488) (fun _ h9 => h9) rfl d_M_row_151 ?_
                          refine lv_aload_n hx hb d_M_row_154 rfl (lv_at hl 3 rfl) ?_
                          refine fr_get (ci := 5) (Cn := hR_5) (T := hF_5) (N := 34) hx hb hT hi_5 hown hK hE (0, 40) rfl rfl rfl 18 (by decide) (hT _ kw_492) (fun _ h9 => h9) rfl d_M_row_155 ?_
                          refine lv_iload hx hb d_M_row_158 (lv_at hl 1 rfl) ?_
                          refine fr_iald hx hb hK hE (0, 58) 0 rfl m18 rfl j_2 (rfl) (by omega) (by decide) d_M_row_160 ?_
                          refine lv_topi (fun y_20 ey_20 => ?_)
                          obtain rfl : y_20 = nI l_2 := ey_20.trans (e_5)
                          refine fr_iald hx hb hK hE (0, 54) 0 rfl m14 rfl l_2 (rfl) (by omega) (by decide) d_M_row_161 ?_
                          refine W.widen (k := 0) (n := 0) (Nat.le_of_ble_eq_true rfl) (Nat.le_of_ble_eq_true rfl) ?_
                          exact W.iret (v := fo l_2) hx hb hr (fun t9 ht9 hW9 => ⟨⟨fo l_2, 0, rfl, Or.inr ⟨rfl, j_1, j_2, k_2, x_2, l_2, a_2, hj_1, rfl, hj_2, hk_2, e_2, e_3, hx_2, rfl, by omega, hl_2, e_4, e_5, Or.inr (Or.inr (Or.inr ⟨in4_3 pw_6 c_17 c_18 c_19, rfl⟩))⟩, ⟨by rw [ht9]; exact hE, va_K.moved hW9.alike hK⟩⟩, hS.F ht9⟩) hS.2.2 d_M_row_162
                        · skip
                          refine lv_aload_n hx hb d_M_row_132 rfl (lv_at hl 3 rfl) ?_
                          refine fr_get (ci := 5) (Cn := hR_5) (T := hF_5) (N := 34) hx hb hT hi_5 hown hK hE (0, 40) rfl rfl rfl 26 (by decide) (hT _ kw_500) (fun _ h9 => h9) rfl d_M_row_133 ?_
                          refine lv_iload hx hb d_M_row_136 (lv_at hl 0 rfl) ?_
                          refine fr_zald hx hb hK hE (0, 66) 1 rfl m26 rfl (a_2 + x_2) (rfl) (by omega) (by decide) d_M_row_138 ?_
                          refine lv_if_eq (tgt := 146) hx hb d_M_row_139 (by decide) (fun c_21 => ?_) (fun c_21 => ?_)
                          · skip
                            refine lv_iconst (v := 0) hx hb d_M_row_146 (by decide) ?_
                            refine lv_goto (tgt := 162) hx hb d_M_row_147 (by decide) ?_
                            refine W.widen (k := 0) (n := 0) (Nat.le_of_ble_eq_true rfl) (Nat.le_of_ble_eq_true rfl) ?_
                            exact W.iret (v := 0) hx hb hr (fun t9 ht9 hW9 => ⟨⟨0, 0, rfl, Or.inr ⟨rfl, j_1, j_2, k_2, x_2, l_2, a_2, hj_1, rfl, hj_2, hk_2, e_2, e_3, hx_2, rfl, by omega, hl_2, e_4, e_5, Or.inr (Or.inr (Or.inl ⟨c_19, by rw [if_pos c_21]⟩))⟩, ⟨by rw [ht9]; exact hE, va_K.moved hW9.alike hK⟩⟩, hS.F ht9⟩) hS.2.2 d_M_row_162
                          · skip
                            refine lv_iconst (v := 1) hx hb d_M_row_142 (by decide) ?_
                            refine lv_goto (tgt := 162) hx hb d_M_row_143 (by decide) ?_
                            refine W.widen (k := 0) (n := 0) (Nat.le_of_ble_eq_true rfl) (Nat.le_of_ble_eq_true rfl) ?_
                            exact W.iret (v := 1) hx hb hr (fun t9 ht9 hW9 => ⟨⟨1, 0, rfl, Or.inr ⟨rfl, j_1, j_2, k_2, x_2, l_2, a_2, hj_1, rfl, hj_2, hk_2, e_2, e_3, hx_2, rfl, by omega, hl_2, e_4, e_5, Or.inr (Or.inr (Or.inl ⟨c_19, by rw [if_neg c_21]⟩))⟩, ⟨by rw [ht9]; exact hE, va_K.moved hW9.alike hK⟩⟩, hS.F ht9⟩) hS.2.2 d_M_row_162
                      · skip
                        refine lv_aload_n hx hb d_M_row_117 rfl (lv_at hl 3 rfl) ?_
                        refine fr_get (ci := 5) (Cn := hR_5) (T := hF_5) (N := 34) hx hb hT hi_5 hown hK hE (0, 40) rfl rfl rfl 25 (by decide) (hT _ kw_499) (fun _ h9 => h9) rfl d_M_row_118 ?_
                        refine lv_iload hx hb d_M_row_121 (lv_at hl 0 rfl) ?_
                        refine fr_iald hx hb hK hE (0, 65) 0 rfl m25 rfl (a_2 + x_2) (rfl) (by omega) (by decide) d_M_row_123 ?_
                        refine lv_goto (tgt := 162) hx hb d_M_row_124 (by decide) ?_
                        refine W.widen (k := 0) (n := 0) (Nat.le_of_ble_eq_true rfl) (Nat.le_of_ble_eq_true rfl) ?_
                        exact W.iret (v := rd (a_2 + x_2)) hx hb hr (fun t9 ht9 hW9 => ⟨⟨rd (a_2 + x_2), 0, rfl, Or.inr ⟨rfl, j_1, j_2, k_2, x_2, l_2, a_2, hj_1, rfl, hj_2, hk_2, e_2, e_3, hx_2, rfl, by omega, hl_2, e_4, e_5, Or.inr (Or.inl ⟨c_18, rfl⟩)⟩, ⟨by rw [ht9]; exact hE, va_K.moved hW9.alike hK⟩⟩, hS.F ht9⟩) hS.2.2 d_M_row_162
                    · skip
                      refine lv_aload_n hx hb d_M_row_102 rfl (lv_at hl 3 rfl) ?_
                      refine fr_get (ci := 5) (Cn := hR_5) (T := hF_5) (N := 34) hx hb hT hi_5 hown hK hE (0, 40) rfl rfl rfl 24 (by decide) (hT _ kw_498) (fun _ h9 => h9) rfl d_M_row_103 ?_
                      refine lv_iload hx hb d_M_row_106 (lv_at hl 0 rfl) ?_
                      refine fr_iald hx hb hK hE (0, 64) 0 rfl m24 rfl (a_2 + x_2) (rfl) (by omega) (by decide) d_M_row_108 ?_
                      refine lv_goto (tgt := 162) hx hb d_M_row_109 (by decide) ?_
                      refine W.widen (k := 0) (n := 0) (Nat.le_of_ble_eq_true rfl) (Nat.le_of_ble_eq_true rfl) ?_
                      exact W.iret (v := rr (a_2 + x_2)) hx hb hr (fun t9 ht9 hW9 => ⟨⟨rr (a_2 + x_2), 0, rfl, Or.inr ⟨rfl, j_1, j_2, k_2, x_2, l_2, a_2, hj_1, rfl, hj_2, hk_2, e_2, e_3, hx_2, rfl, by omega, hl_2, e_4, e_5, Or.inl ⟨c_17, rfl⟩⟩, ⟨by rw [ht9]; exact hE, va_K.moved hW9.alike hK⟩⟩, hS.F ht9⟩) hS.2.2 d_M_row_162
                  · skip
                    exact absurd c_13 (by decide)
              · skip
                replace pw_11 := fun q => pw_11 ((in0 (m := k_2) (nI_m1 (by omega)) (by omega)).mpr q)
                refine lv_if_eq (tgt := 66) hx hb d_M_row_59 (by decide) (fun c_22 => ?_) (fun c_22 => ?_)
                · skip
                  refine lv_iconst (v := 1) hx hb d_M_row_66 (by decide) ?_
                  refine fr_put (ci := 5) (v := .int 1) (ty := .int) (Cn := hR_5) (T := hF_5) (N := 34) hx hb hT hi_5 hy_5 ho_5 hn_5 hown hK hE hS (0, 40) rfl m0 rfl 0 (by decide) (hT _ kw_474) (fun _ h9 => h9) rfl (by decide +kernel) rfl rfl (Nat.le_of_ble_eq_true rfl) d_M_row_67 (fun H locs hE hS => ?_)
                  refine lv_aload_n hx hb d_M_row_70 rfl (lv_at hl 1 rfl) ?_
                  refine fr_get (ci := 5) (Cn := hR_5) (T := hF_5) (N := 34) hx hb hT hi_5 hown hK hE (0, 40) rfl rfl rfl 0 (by decide) (hT _ kw_474) (fun _ h9 => h9) rfl d_M_row_71 ?_
                  refine lv_if_le (tgt := 79) hx hb d_M_row_74 (by decide) (fun c_23 => ?_) (fun c_23 => ?_)
                  · skip
                    exact absurd c_23 (by decide)
                  · skip
                    refine lv_iconst (v := 0) hx hb d_M_row_77 (by decide) ?_
                    refine W.widen (k := 0) (n := 0) (Nat.le_of_ble_eq_true rfl) (Nat.le_of_ble_eq_true rfl) ?_
                    exact W.iret (v := 0) hx hb hr (fun t9 ht9 hW9 => ⟨⟨0, 1, rfl, Or.inl ⟨rfl, rfl, Or.inr ⟨j_1, hj_1, rfl, Or.inr ⟨j_2, k_2, hj_2, hk_2, e_2, e_3, Or.inr pw_11⟩⟩⟩, ⟨by rw [ht9]; exact hE, va_K.moved hW9.alike hK⟩⟩, hS.F ht9⟩) hS.2.2 d_M_row_78
                · skip
                  exact absurd c_22 (by decide)
        · skip
          replace pw_6 := fun q => pw_6 ((in0 (m := 4) (by decide) (by decide)).mpr q)
          refine lv_if_eq (tgt := 32) hx hb d_M_row_25 (by decide) (fun c_24 => ?_) (fun c_24 => ?_)
          · skip
            refine lv_iconst (v := 0) hx hb d_M_row_32 (by decide) ?_
            refine lv_istore (lv' := [(4, .int 0), (0, .ref (b 40)), (1, .int (nI j_1)), (2, .int i), (3, .int what)]) hx hb d_M_row_33 hl (by decide) rfl (fun ls hl => ?_)
            refine lv_aload_n hx hb d_M_row_35 rfl (lv_at hl 1 rfl) ?_
            refine lv_iload hx hb d_M_row_36 (lv_at hl 0 rfl) ?_
            refine lv_if_eq (tgt := 66) hx hb d_M_row_38 (by decide) (fun c_25 => ?_) (fun c_25 => ?_)
            · skip
              refine lv_iconst (v := 1) hx hb d_M_row_66 (by decide) ?_
              refine fr_put (ci := 5) (v := .int 1) (ty := .int) (Cn := hR_5) (T := hF_5) (N := 34) hx hb hT hi_5 hy_5 ho_5 hn_5 hown hK hE hS (0, 40) rfl m0 rfl 0 (by decide) (hT _ kw_474) (fun _ h9 => h9) rfl (by decide +kernel) rfl rfl (Nat.le_of_ble_eq_true rfl) d_M_row_67 (fun H locs hE hS => ?_)
              refine lv_aload_n hx hb d_M_row_70 rfl (lv_at hl 1 rfl) ?_
              refine fr_get (ci := 5) (Cn := hR_5) (T := hF_5) (N := 34) hx hb hT hi_5 hown hK hE (0, 40) rfl rfl rfl 0 (by decide) (hT _ kw_474) (fun _ h9 => h9) rfl d_M_row_71 ?_
              refine lv_if_le (tgt := 79) hx hb d_M_row_74 (by decide) (fun c_26 => ?_) (fun c_26 => ?_)
              · skip
                exact absurd c_26 (by decide)
              · skip
                refine lv_iconst (v := 0) hx hb d_M_row_77 (by decide) ?_
                refine W.widen (k := 0) (n := 0) (Nat.le_of_ble_eq_true rfl) (Nat.le_of_ble_eq_true rfl) ?_
                exact W.iret (v := 0) hx hb hr (fun t9 ht9 hW9 => ⟨⟨0, 1, rfl, Or.inl ⟨rfl, rfl, Or.inr ⟨j_1, hj_1, rfl, Or.inr ⟨j_2, k_2, hj_2, hk_2, e_2, e_3, Or.inl pw_6⟩⟩⟩, ⟨by rw [ht9]; exact hE, va_K.moved hW9.alike hK⟩⟩, hS.F ht9⟩) hS.2.2 d_M_row_78
            · skip
              exact absurd c_25 (by decide)
          · skip
            exact absurd c_24 (by decide)
  · skip
    replace pw_1 := fun q => pw_1 ((in0 (m := 10) (by decide) (by decide)).mpr q)
    refine lv_if_eq (tgt := 32) hx hb d_M_row_7 (by decide) (fun c_27 => ?_) (fun c_27 => ?_)
    · skip
      refine lv_iconst (v := 0) hx hb d_M_row_32 (by decide) ?_
      refine lv_istore (lv' := [(4, .int 0), (0, .ref (b 40)), (1, .int h), (2, .int i), (3, .int what)]) hx hb d_M_row_33 hl (by decide) rfl (fun ls hl => ?_)
      refine lv_aload_n hx hb d_M_row_35 rfl (lv_at hl 1 rfl) ?_
      refine lv_iload hx hb d_M_row_36 (lv_at hl 0 rfl) ?_
      refine lv_if_eq (tgt := 66) hx hb d_M_row_38 (by decide) (fun c_28 => ?_) (fun c_28 => ?_)
      · skip
        refine lv_iconst (v := 1) hx hb d_M_row_66 (by decide) ?_
        refine fr_put (ci := 5) (v := .int 1) (ty := .int) (Cn := hR_5) (T := hF_5) (N := 34) hx hb hT hi_5 hy_5 ho_5 hn_5 hown hK hE hS (0, 40) rfl m0 rfl 0 (by decide) (hT _ kw_474) (fun _ h9 => h9) rfl (by decide +kernel) rfl rfl (Nat.le_of_ble_eq_true rfl) d_M_row_67 (fun H locs hE hS => ?_)
        refine lv_aload_n hx hb d_M_row_70 rfl (lv_at hl 1 rfl) ?_
        refine fr_get (ci := 5) (Cn := hR_5) (T := hF_5) (N := 34) hx hb hT hi_5 hown hK hE (0, 40) rfl rfl rfl 0 (by decide) (hT _ kw_474) (fun _ h9 => h9) rfl d_M_row_71 ?_
        refine lv_if_le (tgt := 79) hx hb d_M_row_74 (by decide) (fun c_29 => ?_) (fun c_29 => ?_)
        · skip
          exact absurd c_29 (by decide)
        · skip
          refine lv_iconst (v := 0) hx hb d_M_row_77 (by decide) ?_
          refine W.widen (k := 0) (n := 0) (Nat.le_of_ble_eq_true rfl) (Nat.le_of_ble_eq_true rfl) ?_
          exact W.iret (v := 0) hx hb hr (fun t9 ht9 hW9 => ⟨⟨0, 1, rfl, Or.inl ⟨rfl, rfl, Or.inl pw_1⟩, ⟨by rw [ht9]; exact hE, va_K.moved hW9.alike hK⟩⟩, hS.F ht9⟩) hS.2.2 d_M_row_78
      · skip
        exact absurd c_28 (by decide)
    · skip
      exact absurd c_27 (by decide)
set_option maxHeartbeats 4000000 in
set_option maxRecDepth 100000 in
theorem c_M_list (l : Launch) {D : va_G} {z : Nat} {b : Nat → Nat} {C : fr_C} {H9 : Heap} (h9 : fr_W D hCl z b C H9) {cI cZ cJ cP cO : ClassId} {th : Int32} {pg gr lf an n lc ps rw tk po : Nat} {st : Nat → Int32} {dy : Nat → Int32} {dl : Nat → Int32} {ac : Nat → Int32} {hd : Nat → Int32} {mn : Nat → Int32} {si : Nat → Int32} {fo : Nat → Int32} {ol : Nat → Int32} {li : Nat → Int32} {pl : Nat → Int32} {pf : Nat → Int32} {pr : Nat → Int32} {pa : Nat → Int32} {pt : Nat → Int32} {rr : Nat → Int32} {rd : Nat → Int32} {rg : Nat → Int32} {tp : Nat → Int32} {md : Nat → Int32} {le : Nat → Int32} {aw : Nat → Int32} {cs : Nat → Int32} (m0 : C (0, 40) = some (.inr (5, fM b th pg gr lf an n lc ps rw tk po))) (m6 : C (0, 46) = some (.inl (cI, 150, .inl st))) (m7 : C (0, 47) = some (.inl (cI, 150, .inl dy))) (m8 : C (0, 48) = some (.inl (cZ, 150, .inl dl))) (m9 : C (0, 49) = some (.inl (cI, 150, .inl ac))) (m10 : C (0, 50) = some (.inl (cZ, 6, .inl hd))) (m12 : C (0, 52) = some (.inl (cI, 30, .inl mn))) (m13 : C (0, 53) = some (.inl (cI, 30, .inl si))) (m14 : C (0, 54) = some (.inl (cI, 30, .inl fo))) (m15 : C (0, 55) = some (.inl (cI, 30, .inl ol))) (m16 : C (0, 56) = some (.inl (cI, 4500, .inl li))) (m18 : C (0, 58) = some (.inl (cI, 4600, .inl pl))) (m19 : C (0, 59) = some (.inl (cI, 4600, .inl pf))) (m20 : C (0, 60) = some (.inl (cI, 4600, .inl pr))) (m21 : C (0, 61) = some (.inl (cI, 4600, .inl pa))) (m22 : C (0, 62) = some (.inl (cI, 4600, .inl pt))) (m24 : C (0, 64) = some (.inl (cI, 4500, .inl rr))) (m25 : C (0, 65) = some (.inl (cI, 4500, .inl rd))) (m26 : C (0, 66) = some (.inl (cZ, 4500, .inl rg))) (m28 : C (0, 68) = some (.inl (cI, 4600, .inl tp))) (m29 : C (0, 69) = some (.inl (cI, 4600, .inl md))) (m30 : C (0, 70) = some (.inl (cI, 4600, .inl le))) (m31 : C (0, 71) = some (.inl (cI, 10, .inl aw))) (m32 : C (0, 72) = some (.inl (cI, 10, .inl cs))) (hn : n ≤ 150) (hg : 1 ≤ gr ∧ gr ≤ 100) (hlc : lc ≤ 30) (hps : ps < 4600) (htk : tk < 4600) (hpg : pg ≤ 50) (hrw : rw ≤ 150 * lc) (hdl : ∀ j, vp_nar .boolean (dl j) = dl j) (h f fr to of t : Int32) : Met l y_M_list w_M_list ({ frames := 3, cells := 0, slots := 0, locals := 70 }) (va_Pc [.ref (b 40), .int h, .int f, .int fr, .int to, .int of, .int t] (fr_G D hCl (hTy cI cZ cJ cP cO) z b C)) (va_Qi (fun (r : Int32) (u : fr_C) => (lsErr gr lc (gaF (selB fr to of dy st) dy n).2 hd h f fr to of t r ∧ u = fr_up C (0, 40) (.inr (5, fM b 0 pg gr lf an n lc ps rw tk po))) ∨ (lsOk gr lc (gaF (selB fr to of dy st) dy n).2 hd h f fr to of t ∧ ∃ (hh : Nat) (li' : Nat → Int32) (Q : fr_C × (Nat → Int32) × (Nat → Int32) × (Nat → Int32)), hh < 10 ∧ h = nI hh ∧ ((∀ j, j < (gaF (selB fr to of dy st) dy n).2 → li' (150 * lc + j) = nI ((gaF (selB fr to of dy st) dy n).1 j)) ∧ ∀ i, i < 150 * lc → li' i = li i) ∧ mPage (mLs C cI b pg gr lf an n lc ps rw tk po li' mn si fo ol (gaF (selB fr to of dy st) dy n).2 f h) Q.1 cI cZ b 0 pg gr lf an n (lc + 1) ps rw tk po pl pf pr pa pt rr rd rg tp md le dy dl lc 0 t (if pg < (gaF (selB fr to of dy st) dy n).2 then pg else (gaF (selB fr to of dy st) dy n).2) (kp (keepB ac (upd si lc (nI an) lc)) (gaF (selB fr to of dy st) dy n).1 0 (if pg < (gaF (selB fr to of dy st) dy n).2 then pg else (gaF (selB fr to of dy st) dy n).2)) (0 + (if pg < (gaF (selB fr to of dy st) dy n).2 then pg else (gaF (selB fr to of dy st) dy n).2) < (gaF (selB fr to of dy st) dy n).2) Q.2.1 Q.2.2.1 Q.2.2.2 ∧ r = nI (kp (keepB ac (upd si lc (nI an) lc)) (gaF (selB fr to of dy st) dy n).1 0 (if pg < (gaF (selB fr to of dy st) dy n).2 then pg else (gaF (selB fr to of dy st) dy n).2)).length ∧ u = mAns Q.1 cI aw cs (upd pr ps (nI (kp (keepB ac (upd si lc (nI an) lc)) (gaF (selB fr to of dy st) dy n).1 0 (if pg < (gaF (selB fr to of dy st) dy n).2 then pg else (gaF (selB fr to of dy st) dy n).2)).length)) hh ps)) (fun u t => fr_G D hCl (hTy cI cZ cJ cP cO) z ((fun _ => b) u) ((fun u => u) u) t) (fr_A z)) 0 0 (fr_A z) := by
  refine Met.ofW (cc := b_M_list) (maxL := 9) (ret := (some .int)) (by decide) rfl ?_
  intro p e s m args below meth c s₁ B hml hv
  obtain ⟨rfl, hE, hK⟩ := hv
  have hx := B.exec
  have hb := B.bytes
  have hr := B.returns
  have hts := atoms_spec (ws := w_M_list) B.pre
  have hT : ∀ w ∈ hw_tbl, w.before _ s = true := fun w h => hts w (List.mem_cons_of_mem _ h)
  have hown : s.vm.findClass "HarvestStepsModel" = some m.cls := findClass_of_methodNamed B.named
  have hlocks := B.notSynchronized
  have hS : va_S (fr_A z) s.heap s.heap [] := va_S.rf
  have hl := lv_entry ([.ref (b 40), .int h, .int f, .int fr, .int to, .int of, .int t]) (n := 9) (Nat.le_of_ble_eq_true rfl)
  rw [lg_entry_eq]
  generalize (lg_sl ([.ref (b 40), .int h, .int f, .int fr, .int to, .int of, .int t]) ++ List.replicate (9 - (lg_sl ([.ref (b 40), .int h, .int f, .int fr, .int to, .int of, .int t])).length) Slot.unset).toArray = ls at hl ⊢
  have hl : lv_has ls 9 [(0, .ref (b 40)), (1, .int h), (2, .int f), (3, .int fr), (4, .int to), (5, .int of), (6, .int t)] := hl
  refine lv_aload_n hx hb d_M_list_0 rfl (lv_at hl 0 rfl) ?_
  refine lv_iconst (v := 0) hx hb d_M_list_1 (by decide) ?_
  refine fr_put (ci := 5) (v := .int 0) (ty := .int) (Cn := hR_5) (T := hF_5) (N := 34) hx hb hT hi_5 hy_5 ho_5 hn_5 hown hK hE hS (0, 40) rfl m0 rfl 0 (by decide) (hT _ kw_474) (fun _ h9 => h9) rfl (by decide +kernel) rfl rfl (Nat.le_of_ble_eq_true rfl) d_M_list_2 (fun H locs hE hS => ?_)
  refine lv_iload_n hx hb d_M_list_5 rfl (lv_at hl 1 rfl) ?_
  refine lv_iconst (v := 0) hx hb d_M_list_6 (by decide) ?_
  refine lv_bipush (v := 9) hx hb d_M_list_7 (by decide) ?_
  refine fr_calli (va_runS (As := [.int h, .int 0, .int 9]) (rest := []) ⟨hx, hb, hml, hown, hts⟩ (c_M_in l hE h 0 9) (va_cwS 3 hts (hw_goodS kw_585 kw_586 kw_26 kw_587) rfl rfl rfl (by decide +kernel) ⟨Nat.le_of_ble_eq_true rfl, Nat.le_of_ble_eq_true rfl⟩) ⟨fr_blind, fr_pre hE hK⟩ rfl rfl hl.1 rfl (lv_room (Nat.le_of_ble_eq_true rfl)) d_M_list_9 ⟨Nat.le_of_ble_eq_true rfl, Nat.le_of_ble_eq_true rfl⟩) hS (fun r_1 u_1 H locs w_1 hE hS => ?_)
  rcases w_1 with ⟨rfl, pw_1⟩ | ⟨rfl, pw_1⟩
  · skip
    replace pw_1 := (in0 (m := 10) (by decide) (by decide)).mp pw_1
    obtain ⟨j_1, hj_1, rfl⟩ := pw_1
    refine lv_if_ne (tgt := 17) hx hb d_M_list_12 (by decide) (fun c_2 => ?_) (fun c_2 => ?_)
    · skip
      refine lv_iload hx hb d_M_list_17 (lv_at hl 6 rfl) ?_
      refine lv_iconst (v := 0) hx hb d_M_list_19 (by decide) ?_
      refine lv_ldc (v := 1000000000) hx hb hown (hT _ kw_616) d_M_list_20 ?_
      refine fr_calli (va_runS (As := [.int t, .int 0, .int 1000000000]) (rest := []) ⟨hx, hb, hml, hown, hts⟩ (c_M_in l hE t 0 1000000000) (va_cwS 3 hts (hw_goodS kw_585 kw_586 kw_26 kw_587) rfl rfl rfl (by decide +kernel) ⟨Nat.le_of_ble_eq_true rfl, Nat.le_of_ble_eq_true rfl⟩) ⟨fr_blind, fr_pre hE hK⟩ rfl rfl hl.1 rfl (lv_room (Nat.le_of_ble_eq_true rfl)) d_M_list_22 ⟨Nat.le_of_ble_eq_true rfl, Nat.le_of_ble_eq_true rfl⟩) hS (fun r_3 u_3 H locs w_3 hE hS => ?_)
      rcases w_3 with ⟨rfl, pw_3⟩ | ⟨rfl, pw_3⟩
      · skip
        replace pw_3 := (in0 (m := 1000000001) (by decide) (by decide)).mp pw_3
        refine lv_if_ne (tgt := 31) hx hb d_M_list_25 (by decide) (fun c_4 => ?_) (fun c_4 => ?_)
        · skip
          refine lv_aload_n hx hb d_M_list_31 rfl (lv_at hl 0 rfl) ?_
          refine lv_iload_n hx hb d_M_list_32 rfl (lv_at hl 3 rfl) ?_
          refine fr_calli (va_runV (As := [.int fr]) (rest := []) ⟨hx, hb, hml, hown, hts⟩ (c_M_isDay l hE (pg := pg) (gr := gr) (lf := lf) (an := an) (n := n) (lc := lc) (ps := ps) (rw := rw) (tk := tk) (po := po) rfl hg fr) (cwV 1 hts (hw_goodV kw_588 kw_590 kw_13 kw_26 kw_591) rfl rfl rfl (by decide +kernel) ⟨Nat.le_of_ble_eq_true rfl, Nat.le_of_ble_eq_true rfl⟩) ⟨fr_blind, fr_recv hK hE (0, 40) rfl rfl (ci := 5) rfl, fr_pre hE hK⟩ rfl rfl hl.1 rfl (lv_room (Nat.le_of_ble_eq_true rfl)) d_M_list_33 ⟨Nat.le_of_ble_eq_true rfl, Nat.le_of_ble_eq_true rfl⟩) hS (fun r_5 u_5 H locs w_5 hE hS => ?_)
          rcases w_5 with ⟨rfl, pw_5⟩ | ⟨rfl, pw_5⟩
          · skip
            refine lv_if_eq (tgt := 54) hx hb d_M_list_36 (by decide) (fun c_6 => ?_) (fun c_6 => ?_)
            · skip
              exact absurd c_6 (by decide)
            · skip
              refine lv_aload_n hx hb d_M_list_39 rfl (lv_at hl 0 rfl) ?_
              refine lv_iload hx hb d_M_list_40 (lv_at hl 4 rfl) ?_
              refine fr_calli (va_runV (As := [.int to]) (rest := []) ⟨hx, hb, hml, hown, hts⟩ (c_M_isDay l hE (pg := pg) (gr := gr) (lf := lf) (an := an) (n := n) (lc := lc) (ps := ps) (rw := rw) (tk := tk) (po := po) rfl hg to) (cwV 1 hts (hw_goodV kw_588 kw_590 kw_13 kw_26 kw_591) rfl rfl rfl (by decide +kernel) ⟨Nat.le_of_ble_eq_true rfl, Nat.le_of_ble_eq_true rfl⟩) ⟨fr_blind, fr_recv hK hE (0, 40) rfl rfl (ci := 5) rfl, fr_pre hE hK⟩ rfl rfl hl.1 rfl (lv_room (Nat.le_of_ble_eq_true rfl)) d_M_list_42 ⟨Nat.le_of_ble_eq_true rfl, Nat.le_of_ble_eq_true rfl⟩) hS (fun r_7 u_7 H locs w_7 hE hS => ?_)
              rcases w_7 with ⟨rfl, pw_7⟩ | ⟨rfl, pw_7⟩
              · skip
                refine lv_if_eq (tgt := 54) hx hb d_M_list_45 (by decide) (fun c_8 => ?_) (fun c_8 => ?_)
                · skip
                  exact absurd c_8 (by decide)
                · skip
                  refine lv_iload_n hx hb d_M_list_48 rfl (lv_at hl 3 rfl) ?_
                  refine lv_iload hx hb d_M_list_49 (lv_at hl 4 rfl) ?_
                  refine lv_icmp_le (tgt := 57) hx hb d_M_list_51 (by decide) (fun c_9 => ?_) (fun c_9 => ?_)
                  · skip
                    refine lv_aload_n hx hb d_M_list_57 rfl (lv_at hl 0 rfl) ?_
                    refine lv_iload_n hx hb d_M_list_58 rfl (lv_at hl 2 rfl) ?_
                    refine fr_calli (va_runV (As := [.int f]) (rest := []) ⟨hx, hb, hml, hown, hts⟩ (c_M_isHeld l hE (pg := pg) (gr := gr) (lf := lf) (an := an) (n := n) (lc := lc) (ps := ps) (rw := rw) (tk := tk) (po := po) rfl m10 f) (cwV 1 hts (hw_goodV kw_617 kw_619 kw_16 kw_26 kw_620) rfl rfl rfl (by decide +kernel) ⟨Nat.le_of_ble_eq_true rfl, Nat.le_of_ble_eq_true rfl⟩) ⟨fr_blind, fr_recv hK hE (0, 40) rfl rfl (ci := 5) rfl, fr_pre hE hK⟩ rfl rfl hl.1 rfl (lv_room (Nat.le_of_ble_eq_true rfl)) d_M_list_59 ⟨Nat.le_of_ble_eq_true rfl, Nat.le_of_ble_eq_true rfl⟩) hS (fun r_10 u_10 H locs w_10 hE hS => ?_)
                    rcases w_10 with ⟨rfl, pw_10⟩ | ⟨rfl, pw_10⟩
                    · skip
                      refine lv_if_ne (tgt := 68) hx hb d_M_list_62 (by decide) (fun c_11 => ?_) (fun c_11 => ?_)
                      · skip
                        refine lv_iload hx hb d_M_list_68 (lv_at hl 5 rfl) ?_
                        refine lv_iconst (v := (-1)) hx hb d_M_list_70 (by decide) ?_
                        refine lv_bipush (v := 9) hx hb d_M_list_71 (by decide) ?_
                        refine fr_calli (va_runS (As := [.int of, .int (-1), .int 9]) (rest := []) ⟨hx, hb, hml, hown, hts⟩ (c_M_in l hE of (-1) 9) (va_cwS 3 hts (hw_goodS kw_585 kw_586 kw_26 kw_587) rfl rfl rfl (by decide +kernel) ⟨Nat.le_of_ble_eq_true rfl, Nat.le_of_ble_eq_true rfl⟩) ⟨fr_blind, fr_pre hE hK⟩ rfl rfl hl.1 rfl (lv_room (Nat.le_of_ble_eq_true rfl)) d_M_list_73 ⟨Nat.le_of_ble_eq_true rfl, Nat.le_of_ble_eq_true rfl⟩) hS (fun r_12 u_12 H locs w_12 hE hS => ?_)
                        rcases w_12 with ⟨rfl, pw_12⟩ | ⟨rfl, pw_12⟩
                        · skip
                          replace pw_12 := (in_okSet).mp pw_12
                          refine lv_if_ne (tgt := 82) hx hb d_M_list_76 (by decide) (fun c_13 => ?_) (fun c_13 => ?_)
                          · skip
                            refine lv_iconst (v := 0) hx hb d_M_list_82 (by decide) ?_
                            refine lv_istore (lv' := [(7, .int 0), (0, .ref (b 40)), (1, .int (nI j_1)), (2, .int f), (3, .int fr), (4, .int to), (5, .int of), (6, .int t)]) hx hb d_M_list_83 hl (by decide) rfl (fun ls hl => ?_)
                            refine lv_iconst (v := 0) hx hb d_M_list_85 (by decide) ?_
                            refine lv_istore (lv' := [(8, .int 0), (7, .int 0), (0, .ref (b 40)), (1, .int (nI j_1)), (2, .int f), (3, .int fr), (4, .int to), (5, .int of), (6, .int t)]) hx hb d_M_list_86 hl (by decide) rfl (fun ls hl => ?_)
                            refine W.widen (k := 0) (n := 0) (Nat.le_of_ble_eq_true rfl) (Nat.le_of_ble_eq_true rfl) ?_
                            have ai0 : (n + 1) + 0 = n + 1 := rfl
                            have ai1 : 0 ≤ n := Nat.zero_le n
                            have ai2 : tells (0 : Int32) (∃ i, i < 0 ∧ (selB fr to of dy st) i = true) := Or.inr ⟨rfl, fun ⟨i, hi, _⟩ => absurd hi (Nat.not_lt_zero i)⟩
                            refine fr_loop (σ := Nat × Int32) (fun n9 x H locs ls => (n9 + x.1 = n + 1) ∧ (x.1 ≤ n) ∧ (tells x.2 (∃ i, i < x.1 ∧ (selB fr to of dy st) i = true)) ∧ fr_W D hCl z b (fr_up C (0, 40) (.inr (5, fM b 0 pg gr lf an n lc ps rw tk po))) H ∧ va_S (fr_A z) s.heap H locs ∧ lv_has ls 9 [(7, .int x.2), (8, .int (nI x.1)), (0, .ref (b 40)), (1, .int (nI j_1)), (2, .int f), (3, .int fr), (4, .int to), (5, .int of), (6, .int t)]) (fun x H locs ls h => by obtain ⟨h1, h2, -⟩ := h; omega) (fun n9 x H locs ls hI ih => ?_) (n + 1) (0, (0 : Int32)) _ _ _ ⟨ai0, ai1, ai2, hE, hS, lv_sub hl [1, 0, 2, 3, 4, 5, 6, 7, 8] rfl⟩
                            obtain ⟨q, a⟩ := x
                            obtain ⟨i0, i1, i2, hE, hS, hl⟩ := hI
                            replace i0 : (n9 + 1) + q = n + 1 := i0
                            replace i1 : q ≤ n := i1
                            replace i2 : tells a (∃ i, i < q ∧ (selB fr to of dy st) i = true) := i2
                            replace hE : fr_W D hCl z b (fr_up C (0, 40) (.inr (5, fM b 0 pg gr lf an n lc ps rw tk po))) H := hE
                            replace hl : lv_has ls 9 [(7, .int a), (8, .int (nI q)), (0, .ref (b 40)), (1, .int (nI j_1)), (2, .int f), (3, .int fr), (4, .int to), (5, .int of), (6, .int t)] := hl
                            refine lv_iload hx hb d_M_list_88 (lv_at hl 1 rfl) ?_
                            refine lv_aload_n hx hb d_M_list_90 rfl (lv_at hl 2 rfl) ?_
                            refine fr_get (ci := 5) (Cn := hR_5) (T := hF_5) (N := 34) hx hb hT hi_5 hown hK hE (0, 40) rfl rfl rfl 5 (by decide) (hT _ kw_479) (fun _ h9 => h9) rfl d_M_list_91 ?_
                            refine lv_icmp_ge (tgt := 148) hx hb d_M_list_94 (by decide) (fun c_14 => ?_) (fun c_14 => ?_)
                            · skip
                              have hqn : q = n := by rcases Nat.lt_or_ge q n with y | y; exact absurd c_14 (nI_ge y (by omega)); omega
                              subst hqn
                              rcases i2 with ⟨rfl, hany⟩ | ⟨rfl, hany⟩
                              · skip
                                have hpos : 0 < (gaF (selB fr to of dy st) dy q).2 := (gaF_any (selB fr to of dy st) dy q).mpr hany
                                refine lv_iload hx hb d_M_list_148 (lv_at hl 0 rfl) ?_
                                refine lv_if_ne (tgt := 156) hx hb d_M_list_150 (by decide) (fun c_15 => ?_) (fun c_15 => ?_)
                                · skip
                                  refine lv_aload_n hx hb d_M_list_156 rfl (lv_at hl 2 rfl) ?_
                                  refine fr_get (ci := 5) (Cn := hR_5) (T := hF_5) (N := 34) hx hb hT hi_5 hown hK hE (0, 40) rfl rfl rfl 11 (by decide) (hT _ kw_485) (fun _ h9 => h9) rfl d_M_list_157 ?_
                                  refine lv_bipush (v := 30) hx hb d_M_list_160 (by decide) ?_
                                  refine lv_icmp_ne (tgt := 168) hx hb d_M_list_162 (by decide) (fun c_16 => ?_) (fun c_16 => ?_)
                                  · skip
                                    have hlt : lc < 30 := by rcases Nat.lt_or_ge lc 30 with y | y; exact y; exact absurd (by rw [show lc = 30 by omega]; rfl) c_16
                                    have hk150 : (gaF (selB fr to of dy st) dy q).2 ≤ 150 := by have := gaF_le (selB fr to of dy st) dy q; omega
                                    refine lv_aload_n hx hb d_M_list_168 rfl (lv_at hl 2 rfl) ?_
                                    refine fr_get (ci := 5) (Cn := hR_5) (T := hF_5) (N := 34) hx hb hT hi_5 hown hK hE (0, 40) rfl rfl rfl 12 (by decide) (hT _ kw_486) (fun _ h9 => h9) rfl d_M_list_169 ?_
                                    refine lv_aload_n hx hb d_M_list_172 rfl (lv_at hl 2 rfl) ?_
                                    refine fr_get (ci := 5) (Cn := hR_5) (T := hF_5) (N := 34) hx hb hT hi_5 hown hK hE (0, 40) rfl rfl rfl 11 (by decide) (hT _ kw_485) (fun _ h9 => h9) rfl d_M_list_173 ?_
                                    refine lv_aload_n hx hb d_M_list_176 rfl (lv_at hl 2 rfl) ?_
                                    refine lv_iload_n hx hb d_M_list_177 rfl (lv_at hl 5 rfl) ?_
                                    refine lv_iload hx hb d_M_list_178 (lv_at hl 6 rfl) ?_
                                    refine lv_iload hx hb d_M_list_180 (lv_at hl 7 rfl) ?_
                                    refine fr_calli (va_runV (As := [.int fr, .int to, .int of]) (rest := [.int (nI lc), .ref (b 52)]) ⟨hx, hb, hml, hown, hts⟩ (c_M_gather l hE (pg := pg) (gr := gr) (lf := lf) (an := an) (n := q) (lc := lc) (ps := ps) (rw := rw) (tk := tk) (po := po) rfl m6 m7 m16 (by omega) hlt fr to of) (cwV 3 hts (hw_goodV kw_621 kw_623 kw_17 kw_26 kw_624) rfl rfl rfl (by decide +kernel) ⟨Nat.le_of_ble_eq_true rfl, Nat.le_of_ble_eq_true rfl⟩) ⟨fr_blind, fr_recv hK hE (0, 40) rfl rfl (ci := 5) rfl, fr_pre hE hK⟩ rfl rfl hl.1 rfl (lv_room (Nat.le_of_ble_eq_true rfl)) d_M_list_182 ⟨Nat.le_of_ble_eq_true rfl, Nat.le_of_ble_eq_true rfl⟩) hS (fun r_17 u_17 H locs w_17 hE hS => ?_)
                                    obtain ⟨rfl, g1, g2⟩ := id w_17
                                    refine fr_iast hx hb hK hE hS (0, 52) 0 rfl m12 rfl lc (rfl) (by omega) (by decide) d_M_list_185 (fun H locs hE hS => ?_)
                                    refine lv_aload_n hx hb d_M_list_186 rfl (lv_at hl 2 rfl) ?_
                                    refine fr_get (ci := 5) (Cn := hR_5) (T := hF_5) (N := 34) hx hb hT hi_5 hown hK hE (0, 40) rfl rfl rfl 13 (by decide) (hT _ kw_487) (fun _ h9 => h9) rfl d_M_list_187 ?_
                                    refine lv_aload_n hx hb d_M_list_190 rfl (lv_at hl 2 rfl) ?_
                                    refine fr_get (ci := 5) (Cn := hR_5) (T := hF_5) (N := 34) hx hb hT hi_5 hown hK hE (0, 40) rfl rfl rfl 11 (by decide) (hT _ kw_485) (fun _ h9 => h9) rfl d_M_list_191 ?_
                                    refine lv_aload_n hx hb d_M_list_194 rfl (lv_at hl 2 rfl) ?_
                                    refine fr_get (ci := 5) (Cn := hR_5) (T := hF_5) (N := 34) hx hb hT hi_5 hown hK hE (0, 40) rfl rfl rfl 4 (by decide) (hT _ kw_478) (fun _ h9 => h9) rfl d_M_list_195 ?_
                                    refine fr_iast hx hb hK hE hS (0, 53) 0 rfl m13 rfl lc (rfl) (by omega) (by decide) d_M_list_198 (fun H locs hE hS => ?_)
                                    refine lv_aload_n hx hb d_M_list_199 rfl (lv_at hl 2 rfl) ?_
                                    refine fr_get (ci := 5) (Cn := hR_5) (T := hF_5) (N := 34) hx hb hT hi_5 hown hK hE (0, 40) rfl rfl rfl 14 (by decide) (hT _ kw_488) (fun _ h9 => h9) rfl d_M_list_200 ?_
                                    refine lv_aload_n hx hb d_M_list_203 rfl (lv_at hl 2 rfl) ?_
                                    refine fr_get (ci := 5) (Cn := hR_5) (T := hF_5) (N := 34) hx hb hT hi_5 hown hK hE (0, 40) rfl rfl rfl 11 (by decide) (hT _ kw_485) (fun _ h9 => h9) rfl d_M_list_204 ?_
                                    refine lv_iload_n hx hb d_M_list_207 rfl (lv_at hl 4 rfl) ?_
                                    refine fr_iast hx hb hK hE hS (0, 54) 0 rfl m14 rfl lc (rfl) (by omega) (by decide) d_M_list_208 (fun H locs hE hS => ?_)
                                    refine lv_aload_n hx hb d_M_list_209 rfl (lv_at hl 2 rfl) ?_
                                    refine fr_get (ci := 5) (Cn := hR_5) (T := hF_5) (N := 34) hx hb hT hi_5 hown hK hE (0, 40) rfl rfl rfl 15 (by decide) (hT _ kw_489) (fun _ h9 => h9) rfl d_M_list_210 ?_
                                    refine lv_aload_n hx hb d_M_list_213 rfl (lv_at hl 2 rfl) ?_
                                    refine fr_get (ci := 5) (Cn := hR_5) (T := hF_5) (N := 34) hx hb hT hi_5 hown hK hE (0, 40) rfl rfl rfl 11 (by decide) (hT _ kw_485) (fun _ h9 => h9) rfl d_M_list_214 ?_
                                    refine lv_iload_n hx hb d_M_list_217 rfl (lv_at hl 3 rfl) ?_
                                    refine fr_iast hx hb hK hE hS (0, 55) 0 rfl m15 rfl lc (rfl) (by omega) (by decide) d_M_list_218 (fun H locs hE hS => ?_)
                                    refine lv_aload_n hx hb d_M_list_219 rfl (lv_at hl 2 rfl) ?_
                                    refine lv_dup hx hb d_M_list_220 rfl ?_
                                    refine fr_get (ci := 5) (Cn := hR_5) (T := hF_5) (N := 34) hx hb hT hi_5 hown hK hE (0, 40) rfl rfl rfl 11 (by decide) (hT _ kw_485) (fun _ h9 => h9) rfl d_M_list_221 ?_
                                    refine lv_iconst (v := 1) hx hb d_M_list_224 (by decide) ?_
                                    refine lv_iadd hx hb d_M_list_225 ?_
                                    refine lv_topi (fun y_18 ey_18 => ?_)
                                    obtain rfl : y_18 = nI (lc + 1) := ey_18.trans (nI_1 lc)
                                    refine fr_put (ci := 5) (v := .int (nI (lc + 1))) (ty := .int) (Cn := hR_5) (T := hF_5) (N := 34) hx hb hT hi_5 hy_5 ho_5 hn_5 hown hK hE hS (0, 40) rfl rfl rfl 11 (by decide) (hT _ kw_485) (fun _ h9 => h9) rfl (by decide +kernel) rfl rfl (Nat.le_of_ble_eq_true rfl) d_M_list_226 (fun H locs hE hS => ?_)
                                    refine lv_aload_n hx hb d_M_list_229 rfl (lv_at hl 2 rfl) ?_
                                    refine lv_iload_n hx hb d_M_list_230 rfl (lv_at hl 3 rfl) ?_
                                    refine lv_aload_n hx hb d_M_list_231 rfl (lv_at hl 2 rfl) ?_
                                    refine lv_aload_n hx hb d_M_list_232 rfl (lv_at hl 2 rfl) ?_
                                    refine fr_get (ci := 5) (Cn := hR_5) (T := hF_5) (N := 34) hx hb hT hi_5 hown hK hE (0, 40) rfl rfl rfl 11 (by decide) (hT _ kw_485) (fun _ h9 => h9) rfl d_M_list_233 ?_
                                    refine lv_iconst (v := 1) hx hb d_M_list_236 (by decide) ?_
                                    refine lv_isub hx hb d_M_list_237 ?_
                                    refine lv_topi (fun y_19 ey_19 => ?_)
                                    obtain rfl : y_19 = nI lc := ey_19.trans (nI_pred lc)
                                    refine lv_iconst (v := 0) hx hb d_M_list_238 (by decide) ?_
                                    refine lv_iload hx hb d_M_list_239 (lv_at hl 8 rfl) ?_
                                    refine fr_calli (va_runV (As := [.int (nI lc), .int 0, .int t]) (rest := [.int (nI j_1), .ref (b 40)]) ⟨hx, hb, hml, hown, hts⟩ (c_M_makePage l hE (th := 0) (pg := pg) (gr := gr) (lf := lf) (an := an) (n := q) (lc := lc + 1) (ps := ps) (rw := rw) (tk := tk) (po := po) rfl m7 m8 m9 rfl rfl rfl m18 m19 m20 m21 m22 m24 m25 m26 m28 m29 m30 lc 0 (gaF (selB fr to of dy st) dy q).2 (if pg < (gaF (selB fr to of dy st) dy q).2 then pg else (gaF (selB fr to of dy st) dy q).2) t (gaF (selB fr to of dy st) dy q).1 (by omega) (by omega) (by omega) (by omega) pk_us (by omega) (Nat.zero_le _) (by rw [Nat.zero_add, Nat.zero_add]) (by split <;> omega) hdl (fun k hk => ⟨g1 k hk, by have := gaF_lt (selB fr to of dy st) dy q k hk; omega⟩)) (cwV 3 hts (hw_goodV kw_625 kw_627 kw_18 kw_26 kw_628) rfl rfl rfl (by decide +kernel) ⟨Nat.le_of_ble_eq_true rfl, Nat.le_of_ble_eq_true rfl⟩) ⟨fr_blind, fr_recv hK hE (0, 40) rfl rfl (ci := 5) rfl, fr_pre hE hK⟩ rfl rfl hl.1 rfl (lv_room (Nat.le_of_ble_eq_true rfl)) d_M_list_241 ⟨Nat.le_of_ble_eq_true rfl, Nat.le_of_ble_eq_true rfl⟩) hS (fun r_20 u_20 H locs w_20 hE hS => ?_)
                                    obtain ⟨rfl, hPg⟩ := id w_20
                                    have z71 : u_20.1 (0, 71) = some (.inl (cI, 10, .inl aw)) := hPg.2.2.2.2.2.2.2.2.2.1.at (by decide) m31
                                    have z72 : u_20.1 (0, 72) = some (.inl (cI, 10, .inl cs)) := hPg.2.2.2.2.2.2.2.2.2.1.at (by decide) m32
                                    obtain ⟨rw9, tk9, po9, z40⟩ : ∃ rw9 tk9 po9, u_20.1 (0, 40) = some (.inr (5, fM b 0 pg gr lf an q (lc + 1) (ps + 1) rw9 tk9 po9)) := by rcases hPg.2.2.2.2.2.2.2.2.2.2 with ⟨_, y, _⟩ | ⟨_, y, _⟩ <;> exact ⟨_, _, _, y⟩
                                    refine fr_calli (va_runV (As := [.int (nI j_1), .int (nI ps)]) (rest := []) ⟨hx, hb, hml, hown, hts⟩ (c_M_answer l hE (th := 0) (pg := pg) (gr := gr) (lf := lf) (an := an) (n := q) (lc := lc + 1) (ps := ps + 1) (rw := rw9) (tk := tk9) (po := po9) z40 hPg.2.2.1 z71 z72 j_1 ps (by omega) (by omega)) (cwV 2 hts (hw_goodV kw_629 kw_631 kw_19 kw_26 kw_632) rfl rfl rfl (by decide +kernel) ⟨Nat.le_of_ble_eq_true rfl, Nat.le_of_ble_eq_true rfl⟩) ⟨fr_blind, fr_recv hK hE (0, 40) rfl z40 (ci := 5) rfl, fr_pre hE hK⟩ rfl rfl hl.1 rfl (lv_room (Nat.le_of_ble_eq_true rfl)) d_M_list_244 ⟨Nat.le_of_ble_eq_true rfl, Nat.le_of_ble_eq_true rfl⟩) hS (fun r_21 u_21 H locs w_21 hE hS => ?_)
                                    obtain rfl : r_21 = nI (kp (keepB ac (upd si lc (nI an) lc)) (gaF (selB fr to of dy st) dy q).1 0 (if pg < (gaF (selB fr to of dy st) dy q).2 then pg else (gaF (selB fr to of dy st) dy q).2)).length := w_21.trans pk_us
                                    refine W.widen (k := 0) (n := 0) (Nat.le_of_ble_eq_true rfl) (Nat.le_of_ble_eq_true rfl) ?_
                                    exact W.iret (v := nI (kp (keepB ac (upd si lc (nI an) lc)) (gaF (selB fr to of dy st) dy q).1 0 (if pg < (gaF (selB fr to of dy st) dy q).2 then pg else (gaF (selB fr to of dy st) dy q).2)).length) hx hb hr (fun t9 ht9 hW9 => ⟨⟨nI (kp (keepB ac (upd si lc (nI an) lc)) (gaF (selB fr to of dy st) dy q).1 0 (if pg < (gaF (selB fr to of dy st) dy q).2 then pg else (gaF (selB fr to of dy st) dy q).2)).length, _, rfl, Or.inr ⟨⟨⟨j_1, hj_1, rfl⟩, pw_3, ⟨pw_5, pw_7, c_9⟩, pw_10, pw_12, hpos, hlt⟩, j_1, u_17, u_20, hj_1, rfl, w_17.2, w_20.2, rfl, rfl⟩, ⟨by rw [ht9]; exact hE, va_K.moved hW9.alike hK⟩⟩, hS.F ht9⟩) hS.2.2 d_M_list_247
                                  · skip
                                    refine lv_bipush (v := (-4)) hx hb d_M_list_165 (by decide) ?_
                                    refine W.widen (k := 0) (n := 0) (Nat.le_of_ble_eq_true rfl) (Nat.le_of_ble_eq_true rfl) ?_
                                    exact W.iret (v := (-4)) hx hb hr (fun t9 ht9 hW9 => ⟨⟨(-4), _, rfl, Or.inl ⟨Or.inr (Or.inr (Or.inr (Or.inr (Or.inr (Or.inr ⟨⟨j_1, hj_1, rfl⟩, pw_3, ⟨pw_5, pw_7, c_9⟩, pw_10, pw_12, hpos, (by have := (nI_eq (a := lc) (b := 30) (by omega) (by decide)).mp c_16; omega), rfl⟩))))), rfl⟩, ⟨by rw [ht9]; exact hE, va_K.moved hW9.alike hK⟩⟩, hS.F ht9⟩) hS.2.2 d_M_list_167
                                · skip
                                  exact absurd c_15 (by decide)
                              · skip
                                have hzer : (gaF (selB fr to of dy st) dy q).2 = 0 := by rcases Nat.eq_zero_or_pos (gaF (selB fr to of dy st) dy q).2 with y | y; exact y; exact absurd ((gaF_any (selB fr to of dy st) dy q).mp y) hany
                                refine lv_iload hx hb d_M_list_148 (lv_at hl 0 rfl) ?_
                                refine lv_if_ne (tgt := 156) hx hb d_M_list_150 (by decide) (fun c_22 => ?_) (fun c_22 => ?_)
                                · skip
                                  exact absurd c_22 (by decide)
                                · skip
                                  refine lv_bipush (v := (-14)) hx hb d_M_list_153 (by decide) ?_
                                  refine W.widen (k := 0) (n := 0) (Nat.le_of_ble_eq_true rfl) (Nat.le_of_ble_eq_true rfl) ?_
                                  exact W.iret (v := (-14)) hx hb hr (fun t9 ht9 hW9 => ⟨⟨(-14), _, rfl, Or.inl ⟨Or.inr (Or.inr (Or.inr (Or.inr (Or.inr (Or.inl ⟨⟨j_1, hj_1, rfl⟩, pw_3, ⟨pw_5, pw_7, c_9⟩, pw_10, pw_12, hzer, rfl⟩))))), rfl⟩, ⟨by rw [ht9]; exact hE, va_K.moved hW9.alike hK⟩⟩, hS.F ht9⟩) hS.2.2 d_M_list_155
                            · skip
                              have hq : q < n := by rcases Nat.lt_or_ge q n with y | y; exact y; exact absurd (nI_le y (by omega)) c_14
                              refine lv_iload hx hb d_M_list_97 (lv_at hl 0 rfl) ?_
                              refine lv_if_ne (tgt := 135) hx hb d_M_list_99 (by decide) (fun c_23 => ?_) (fun c_23 => ?_)
                              · skip
                                refine lv_iconst (v := 1) hx hb d_M_list_135 (by decide) ?_
                                refine lv_goto (tgt := 140) hx hb d_M_list_136 (by decide) ?_
                                refine lv_istore (lv' := [(7, .int 1), (8, .int (nI q)), (0, .ref (b 40)), (1, .int (nI j_1)), (2, .int f), (3, .int fr), (4, .int to), (5, .int of), (6, .int t)]) hx hb d_M_list_140 hl (by decide) rfl (fun ls hl => ?_)
                                refine lv_iinc (v := nI (q + 1)) (lv' := [(8, .int (nI (q + 1))), (7, .int 1), (0, .ref (b 40)), (1, .int (nI j_1)), (2, .int f), (3, .int fr), (4, .int to), (5, .int of), (6, .int t)]) hx hb d_M_list_142 hl (k := 1) rfl (nI_1 q) (by decide) rfl (fun ls hl => ?_)
                                refine lv_goto (tgt := 88) hx hb d_M_list_145 (by decide) ?_
                                have bi0 : n9 + (q + 1) = n + 1 := by omega
                                have bi1 : (q + 1) ≤ n := by omega
                                have bi2 : tells (1 : Int32) (∃ i, i < (q + 1) ∧ (selB fr to of dy st) i = true) := Or.inl ⟨rfl, by rcases i2 with ⟨_, i, hi, hs⟩ | ⟨e, _⟩; exact ⟨i, by omega, hs⟩; exact absurd e c_23⟩
                                exact ih (q + 1, (1 : Int32)) _ _ _ ⟨bi0, bi1, bi2, hE, hS, lv_sub hl [1, 0, 2, 3, 4, 5, 6, 7, 8] rfl⟩
                              · skip
                                refine lv_aload_n hx hb d_M_list_102 rfl (lv_at hl 2 rfl) ?_
                                refine fr_get (ci := 5) (Cn := hR_5) (T := hF_5) (N := 34) hx hb hT hi_5 hown hK hE (0, 40) rfl rfl rfl 7 (by decide) (hT _ kw_481) (fun _ h9 => h9) rfl d_M_list_103 ?_
                                refine lv_iload hx hb d_M_list_106 (lv_at hl 1 rfl) ?_
                                refine fr_iald hx hb hK hE (0, 47) 0 rfl m7 rfl q (rfl) (by omega) (by decide) d_M_list_108 ?_
                                refine lv_iload_n hx hb d_M_list_109 rfl (lv_at hl 5 rfl) ?_
                                refine lv_iload hx hb d_M_list_110 (lv_at hl 6 rfl) ?_
                                refine fr_calli (va_runS (As := [.int (dy q), .int fr, .int to]) (rest := []) ⟨hx, hb, hml, hown, hts⟩ (c_M_in l hE (dy q) fr to) (va_cwS 3 hts (hw_goodS kw_585 kw_586 kw_26 kw_587) rfl rfl rfl (by decide +kernel) ⟨Nat.le_of_ble_eq_true rfl, Nat.le_of_ble_eq_true rfl⟩) ⟨fr_blind, fr_pre hE hK⟩ rfl rfl hl.1 rfl (lv_room (Nat.le_of_ble_eq_true rfl)) d_M_list_112 ⟨Nat.le_of_ble_eq_true rfl, Nat.le_of_ble_eq_true rfl⟩) hS (fun r_24 u_24 H locs w_24 hE hS => ?_)
                                rcases w_24 with ⟨rfl, pw_24⟩ | ⟨rfl, pw_24⟩
                                · skip
                                  refine lv_if_eq (tgt := 139) hx hb d_M_list_115 (by decide) (fun c_25 => ?_) (fun c_25 => ?_)
                                  · skip
                                    exact absurd c_25 (by decide)
                                  · skip
                                    refine lv_iload hx hb d_M_list_118 (lv_at hl 7 rfl) ?_
                                    refine lv_if_lt (tgt := 135) hx hb d_M_list_120 (by decide) (fun c_26 => ?_) (fun c_26 => ?_)
                                    · skip
                                      refine lv_iconst (v := 1) hx hb d_M_list_135 (by decide) ?_
                                      refine lv_goto (tgt := 140) hx hb d_M_list_136 (by decide) ?_
                                      refine lv_istore (lv' := [(7, .int 1), (8, .int (nI q)), (0, .ref (b 40)), (1, .int (nI j_1)), (2, .int f), (3, .int fr), (4, .int to), (5, .int of), (6, .int t)]) hx hb d_M_list_140 hl (by decide) rfl (fun ls hl => ?_)
                                      refine lv_iinc (v := nI (q + 1)) (lv' := [(8, .int (nI (q + 1))), (7, .int 1), (0, .ref (b 40)), (1, .int (nI j_1)), (2, .int f), (3, .int fr), (4, .int to), (5, .int of), (6, .int t)]) hx hb d_M_list_142 hl (k := 1) rfl (nI_1 q) (by decide) rfl (fun ls hl => ?_)
                                      refine lv_goto (tgt := 88) hx hb d_M_list_145 (by decide) ?_
                                      have bi0 : n9 + (q + 1) = n + 1 := by omega
                                      have bi1 : (q + 1) ≤ n := by omega
                                      have bi2 : tells (1 : Int32) (∃ i, i < (q + 1) ∧ (selB fr to of dy st) i = true) := Or.inl ⟨rfl, q, by omega, selB_yes pw_24.1 pw_24.2 (Or.inl c_26)⟩
                                      exact ih (q + 1, (1 : Int32)) _ _ _ ⟨bi0, bi1, bi2, hE, hS, lv_sub hl [1, 0, 2, 3, 4, 5, 6, 7, 8] rfl⟩
                                    · skip
                                      refine lv_aload_n hx hb d_M_list_123 rfl (lv_at hl 2 rfl) ?_
                                      refine fr_get (ci := 5) (Cn := hR_5) (T := hF_5) (N := 34) hx hb hT hi_5 hown hK hE (0, 40) rfl rfl rfl 6 (by decide) (hT _ kw_480) (fun _ h9 => h9) rfl d_M_list_124 ?_
                                      refine lv_iload hx hb d_M_list_127 (lv_at hl 1 rfl) ?_
                                      refine fr_iald hx hb hK hE (0, 46) 0 rfl m6 rfl q (rfl) (by omega) (by decide) d_M_list_129 ?_
                                      refine lv_iload hx hb d_M_list_130 (lv_at hl 7 rfl) ?_
                                      refine lv_icmp_ne (tgt := 139) hx hb d_M_list_132 (by decide) (fun c_27 => ?_) (fun c_27 => ?_)
                                      · skip
                                        refine lv_iconst (v := 0) hx hb d_M_list_139 (by decide) ?_
                                        refine lv_istore (lv' := [(7, .int 0), (8, .int (nI q)), (0, .ref (b 40)), (1, .int (nI j_1)), (2, .int f), (3, .int fr), (4, .int to), (5, .int of), (6, .int t)]) hx hb d_M_list_140 hl (by decide) rfl (fun ls hl => ?_)
                                        refine lv_iinc (v := nI (q + 1)) (lv' := [(8, .int (nI (q + 1))), (7, .int 0), (0, .ref (b 40)), (1, .int (nI j_1)), (2, .int f), (3, .int fr), (4, .int to), (5, .int of), (6, .int t)]) hx hb d_M_list_142 hl (k := 1) rfl (nI_1 q) (by decide) rfl (fun ls hl => ?_)
                                        refine lv_goto (tgt := 88) hx hb d_M_list_145 (by decide) ?_
                                        have ns : (selB fr to of dy st) q = false := selB_n3 c_26 c_27
                                        have bi0 : n9 + (q + 1) = n + 1 := by omega
                                        have bi1 : (q + 1) ≤ n := by omega
                                        have bi2 : tells (0 : Int32) (∃ i, i < (q + 1) ∧ (selB fr to of dy st) i = true) := Or.inr ⟨rfl, fun ⟨i, hi, hs⟩ => by rcases i2 with ⟨e, _⟩ | ⟨_, hn⟩; exact absurd (c_23) (by rw [e]; decide); rcases Nat.lt_or_ge i q with y | y; exact hn ⟨i, y, hs⟩; rw [show i = q by omega, ns] at hs; exact absurd hs (by decide)⟩
                                        exact ih (q + 1, (0 : Int32)) _ _ _ ⟨bi0, bi1, bi2, hE, hS, lv_sub hl [1, 0, 2, 3, 4, 5, 6, 7, 8] rfl⟩
                                      · skip
                                        refine lv_iconst (v := 1) hx hb d_M_list_135 (by decide) ?_
                                        refine lv_goto (tgt := 140) hx hb d_M_list_136 (by decide) ?_
                                        refine lv_istore (lv' := [(7, .int 1), (8, .int (nI q)), (0, .ref (b 40)), (1, .int (nI j_1)), (2, .int f), (3, .int fr), (4, .int to), (5, .int of), (6, .int t)]) hx hb d_M_list_140 hl (by decide) rfl (fun ls hl => ?_)
                                        refine lv_iinc (v := nI (q + 1)) (lv' := [(8, .int (nI (q + 1))), (7, .int 1), (0, .ref (b 40)), (1, .int (nI j_1)), (2, .int f), (3, .int fr), (4, .int to), (5, .int of), (6, .int t)]) hx hb d_M_list_142 hl (k := 1) rfl (nI_1 q) (by decide) rfl (fun ls hl => ?_)
                                        refine lv_goto (tgt := 88) hx hb d_M_list_145 (by decide) ?_
                                        have bi0 : n9 + (q + 1) = n + 1 := by omega
                                        have bi1 : (q + 1) ≤ n := by omega
                                        have bi2 : tells (1 : Int32) (∃ i, i < (q + 1) ∧ (selB fr to of dy st) i = true) := Or.inl ⟨rfl, q, by omega, selB_yes pw_24.1 pw_24.2 (Or.inr c_27)⟩
                                        exact ih (q + 1, (1 : Int32)) _ _ _ ⟨bi0, bi1, bi2, hE, hS, lv_sub hl [1, 0, 2, 3, 4, 5, 6, 7, 8] rfl⟩
                                · skip
                                  refine lv_if_eq (tgt := 139) hx hb d_M_list_115 (by decide) (fun c_28 => ?_) (fun c_28 => ?_)
                                  · skip
                                    refine lv_iconst (v := 0) hx hb d_M_list_139 (by decide) ?_
                                    refine lv_istore (lv' := [(7, .int 0), (8, .int (nI q)), (0, .ref (b 40)), (1, .int (nI j_1)), (2, .int f), (3, .int fr), (4, .int to), (5, .int of), (6, .int t)]) hx hb d_M_list_140 hl (by decide) rfl (fun ls hl => ?_)
                                    refine lv_iinc (v := nI (q + 1)) (lv' := [(8, .int (nI (q + 1))), (7, .int 0), (0, .ref (b 40)), (1, .int (nI j_1)), (2, .int f), (3, .int fr), (4, .int to), (5, .int of), (6, .int t)]) hx hb d_M_list_142 hl (k := 1) rfl (nI_1 q) (by decide) rfl (fun ls hl => ?_)
                                    refine lv_goto (tgt := 88) hx hb d_M_list_145 (by decide) ?_
                                    have ns : (selB fr to of dy st) q = false := by by_cases y1 : fr ≤ dy q; exact selB_n2 (fun y2 => pw_24 ⟨y1, y2⟩); exact selB_n1 y1
                                    have bi0 : n9 + (q + 1) = n + 1 := by omega
                                    have bi1 : (q + 1) ≤ n := by omega
                                    have bi2 : tells (0 : Int32) (∃ i, i < (q + 1) ∧ (selB fr to of dy st) i = true) := Or.inr ⟨rfl, fun ⟨i, hi, hs⟩ => by rcases i2 with ⟨e, _⟩ | ⟨_, hn⟩; exact absurd (c_23) (by rw [e]; decide); rcases Nat.lt_or_ge i q with y | y; exact hn ⟨i, y, hs⟩; rw [show i = q by omega, ns] at hs; exact absurd hs (by decide)⟩
                                    exact ih (q + 1, (0 : Int32)) _ _ _ ⟨bi0, bi1, bi2, hE, hS, lv_sub hl [1, 0, 2, 3, 4, 5, 6, 7, 8] rfl⟩
                                  · skip
                                    exact absurd c_28 (by decide)
                          · skip
                            exact absurd c_13 (by decide)
                        · skip
                          replace pw_12 := fun q => pw_12 ((in_okSet).mpr q)
                          refine lv_if_ne (tgt := 82) hx hb d_M_list_76 (by decide) (fun c_29 => ?_) (fun c_29 => ?_)
                          · skip
                            exact absurd c_29 (by decide)
                          · skip
                            refine lv_bipush (v := (-13)) hx hb d_M_list_79 (by decide) ?_
                            refine W.widen (k := 0) (n := 0) (Nat.le_of_ble_eq_true rfl) (Nat.le_of_ble_eq_true rfl) ?_
                            exact W.iret (v := (-13)) hx hb hr (fun t9 ht9 hW9 => ⟨⟨(-13), _, rfl, Or.inl ⟨Or.inr (Or.inr (Or.inr (Or.inr (Or.inl ⟨⟨j_1, hj_1, rfl⟩, pw_3, ⟨pw_5, pw_7, c_9⟩, pw_10, pw_12, rfl⟩)))), rfl⟩, ⟨by rw [ht9]; exact hE, va_K.moved hW9.alike hK⟩⟩, hS.F ht9⟩) hS.2.2 d_M_list_81
                      · skip
                        exact absurd c_11 (by decide)
                    · skip
                      refine lv_if_ne (tgt := 68) hx hb d_M_list_62 (by decide) (fun c_30 => ?_) (fun c_30 => ?_)
                      · skip
                        exact absurd c_30 (by decide)
                      · skip
                        refine lv_bipush (v := (-12)) hx hb d_M_list_65 (by decide) ?_
                        refine W.widen (k := 0) (n := 0) (Nat.le_of_ble_eq_true rfl) (Nat.le_of_ble_eq_true rfl) ?_
                        exact W.iret (v := (-12)) hx hb hr (fun t9 ht9 hW9 => ⟨⟨(-12), _, rfl, Or.inl ⟨Or.inr (Or.inr (Or.inr (Or.inl ⟨⟨j_1, hj_1, rfl⟩, pw_3, ⟨pw_5, pw_7, c_9⟩, pw_10, rfl⟩))), rfl⟩, ⟨by rw [ht9]; exact hE, va_K.moved hW9.alike hK⟩⟩, hS.F ht9⟩) hS.2.2 d_M_list_67
                  · skip
                    refine lv_bipush (v := (-11)) hx hb d_M_list_54 (by decide) ?_
                    refine W.widen (k := 0) (n := 0) (Nat.le_of_ble_eq_true rfl) (Nat.le_of_ble_eq_true rfl) ?_
                    exact W.iret (v := (-11)) hx hb hr (fun t9 ht9 hW9 => ⟨⟨(-11), _, rfl, Or.inl ⟨Or.inr (Or.inr (Or.inl ⟨⟨j_1, hj_1, rfl⟩, pw_3, fun y => c_9 y.2.2, rfl⟩)), rfl⟩, ⟨by rw [ht9]; exact hE, va_K.moved hW9.alike hK⟩⟩, hS.F ht9⟩) hS.2.2 d_M_list_56
              · skip
                refine lv_if_eq (tgt := 54) hx hb d_M_list_45 (by decide) (fun c_31 => ?_) (fun c_31 => ?_)
                · skip
                  refine lv_bipush (v := (-11)) hx hb d_M_list_54 (by decide) ?_
                  refine W.widen (k := 0) (n := 0) (Nat.le_of_ble_eq_true rfl) (Nat.le_of_ble_eq_true rfl) ?_
                  exact W.iret (v := (-11)) hx hb hr (fun t9 ht9 hW9 => ⟨⟨(-11), _, rfl, Or.inl ⟨Or.inr (Or.inr (Or.inl ⟨⟨j_1, hj_1, rfl⟩, pw_3, fun y => pw_7 y.2.1, rfl⟩)), rfl⟩, ⟨by rw [ht9]; exact hE, va_K.moved hW9.alike hK⟩⟩, hS.F ht9⟩) hS.2.2 d_M_list_56
                · skip
                  exact absurd c_31 (by decide)
          · skip
            refine lv_if_eq (tgt := 54) hx hb d_M_list_36 (by decide) (fun c_32 => ?_) (fun c_32 => ?_)
            · skip
              refine lv_bipush (v := (-11)) hx hb d_M_list_54 (by decide) ?_
              refine W.widen (k := 0) (n := 0) (Nat.le_of_ble_eq_true rfl) (Nat.le_of_ble_eq_true rfl) ?_
              exact W.iret (v := (-11)) hx hb hr (fun t9 ht9 hW9 => ⟨⟨(-11), _, rfl, Or.inl ⟨Or.inr (Or.inr (Or.inl ⟨⟨j_1, hj_1, rfl⟩, pw_3, fun y => pw_5 y.1, rfl⟩)), rfl⟩, ⟨by rw [ht9]; exact hE, va_K.moved hW9.alike hK⟩⟩, hS.F ht9⟩) hS.2.2 d_M_list_56
            · skip
              exact absurd c_32 (by decide)
        · skip
          exact absurd c_4 (by decide)
      · skip
        replace pw_3 := fun q => pw_3 ((in0 (m := 1000000001) (by decide) (by decide)).mpr q)
        refine lv_if_ne (tgt := 31) hx hb d_M_list_25 (by decide) (fun c_33 => ?_) (fun c_33 => ?_)
        · skip
          exact absurd c_33 (by decide)
        · skip
          refine lv_bipush (v := (-2)) hx hb d_M_list_28 (by decide) ?_
          refine W.widen (k := 0) (n := 0) (Nat.le_of_ble_eq_true rfl) (Nat.le_of_ble_eq_true rfl) ?_
          exact W.iret (v := (-2)) hx hb hr (fun t9 ht9 hW9 => ⟨⟨(-2), _, rfl, Or.inl ⟨Or.inr (Or.inl ⟨⟨j_1, hj_1, rfl⟩, pw_3, rfl⟩), rfl⟩, ⟨by rw [ht9]; exact hE, va_K.moved hW9.alike hK⟩⟩, hS.F ht9⟩) hS.2.2 d_M_list_30
    · skip
      exact absurd c_2 (by decide)
  · skip
    replace pw_1 := fun q => pw_1 ((in0 (m := 10) (by decide) (by decide)).mpr q)
    refine lv_if_ne (tgt := 17) hx hb d_M_list_12 (by decide) (fun c_34 => ?_) (fun c_34 => ?_)
    · skip
      exact absurd c_34 (by decide)
    · skip
      refine lv_iconst (v := (-1)) hx hb d_M_list_15 (by decide) ?_
      refine W.widen (k := 0) (n := 0) (Nat.le_of_ble_eq_true rfl) (Nat.le_of_ble_eq_true rfl) ?_
      exact W.iret (v := (-1)) hx hb hr (fun t9 ht9 hW9 => ⟨⟨(-1), _, rfl, Or.inl ⟨Or.inl ⟨pw_1, rfl⟩, rfl⟩, ⟨by rw [ht9]; exact hE, va_K.moved hW9.alike hK⟩⟩, hS.F ht9⟩) hS.2.2 d_M_list_16
