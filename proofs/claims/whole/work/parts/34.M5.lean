theorem in_okSet {v : Int32} : (-1 ≤ v ∧ v ≤ 9) ↔ okSet v := by
  constructor
  · rintro ⟨a, c⟩
    by_cases h : v = -1
    · exact Or.inl h
    · refine Or.inr (inN_yes (n := 10) (by decide) (fun q => h ?_) (fun q => ?_))
      · have e1 := Int32.le_iff_toInt_le.mp a
        have e2 := Int32.lt_iff_toInt_lt.mp q
        apply Int32.toInt_inj.mp
        have e3 : (-1 : Int32).toInt = -1 := rfl
        have e4 : (0 : Int32).toInt = 0 := rfl
        omega
      · have e1 := Int32.le_iff_toInt_le.mp c
        have e2 := Int32.le_iff_toInt_le.mp q
        have e3 : (9 : Int32).toInt = 9 := rfl
        rw [nI_toInt (by decide)] at e2
        omega
  · rintro (rfl | ⟨j, hj, rfl⟩)
    · exact ⟨by decide, by decide⟩
    · constructor
      · apply Int32.le_iff_toInt_le.mpr
        rw [nI_toInt (by omega)]
        have e3 : (-1 : Int32).toInt = -1 := rfl
        omega
      · apply Int32.le_iff_toInt_le.mpr
        rw [nI_toInt (by omega)]
        have e3 : (9 : Int32).toInt = 9 := rfl
        omega
theorem in4_3 {v : Int32} (h : inN v 4) (h0 : ¬ v = 0) (h1 : ¬ v = 1) (h2 : ¬ v = 2) : v = 3 := by
  obtain ⟨j, hj, rfl⟩ := h
  rcases (show j = 0 ∨ j = 1 ∨ j = 2 ∨ j = 3 by omega) with rfl | rfl | rfl | rfl
  · exact absurd rfl h0
  · exact absurd rfl h1
  · exact absurd rfl h2
  · rfl
def spanOk (gr : Nat) (fr to : Int32) : Prop := okDay gr fr ∧ okDay gr to ∧ fr ≤ to
/-- what is against a list, and its code; k: how many records it would have -/
def lsErr (gr lc k : Nat) (hd : Nat → Int32) (h f fr to of t r : Int32) : Prop :=
  (¬ inN h 10 ∧ r = -1) ∨ (inN h 10 ∧ ¬ inN t 1000000001 ∧ r = -2) ∨ (inN h 10 ∧ inN t 1000000001 ∧ ¬ spanOk gr fr to ∧ r = -11) ∨ (inN h 10 ∧ inN t 1000000001 ∧ spanOk gr fr to ∧ ¬ isHeldP hd f ∧ r = -12) ∨ (inN h 10 ∧ inN t 1000000001 ∧ spanOk gr fr to ∧ isHeldP hd f ∧ ¬ okSet of ∧ r = -13) ∨ (inN h 10 ∧ inN t 1000000001 ∧ spanOk gr fr to ∧ isHeldP hd f ∧ okSet of ∧ k = 0 ∧ r = -14) ∨ (inN h 10 ∧ inN t 1000000001 ∧ spanOk gr fr to ∧ isHeldP hd f ∧ okSet of ∧ 0 < k ∧ 30 ≤ lc ∧ r = -4)
def lsOk (gr lc k : Nat) (hd : Nat → Int32) (h f fr to of t : Int32) : Prop := inN h 10 ∧ inN t 1000000001 ∧ spanOk gr fr to ∧ isHeldP hd f ∧ okSet of ∧ 0 < k ∧ lc < 30
/-- the reference's world when a list is made, ahead of its first page -/
def mLs (C : fr_C) (cI : ClassId) (b : Nat → Nat) (pg gr lf an n lc ps rw tk po : Nat) (li' mn si fo ol : Nat → Int32) (k : Nat) (f h : Int32) : fr_C :=
  fr_up (fr_up (fr_up (fr_up (fr_up (fr_up (fr_up C (0, 40) (.inr (5, fM b 0 pg gr lf an n lc ps rw tk po))) (0, 56) (.inl (cI, 4500, .inl li'))) (0, 52) (.inl (cI, 30, .inl (upd mn lc (nI k))))) (0, 53) (.inl (cI, 30, .inl (upd si lc (nI an))))) (0, 54) (.inl (cI, 30, .inl (upd fo lc f)))) (0, 55) (.inl (cI, 30, .inl (upd ol lc h)))) (0, 40) (.inr (5, fM b 0 pg gr lf an n (lc + 1) ps rw tk po))
set_option maxHeartbeats 4000000 in
set_option maxRecDepth 100000 in
theorem c_M_row (l : Launch) {D : va_G} {z : Nat} {b : Nat → Nat} {C : fr_C} {H9 : Heap} (h9 : fr_W D hCl z b C H9) {cI cZ cJ cP cO : ClassId} {th : Int32} {pg gr lf an n lc ps rw tk po : Nat} {fo : Nat → Int32} {pl : Nat → Int32} {pr : Nat → Int32} {pa : Nat → Int32} {rr : Nat → Int32} {rd : Nat → Int32} {rg : Nat → Int32} {aw : Nat → Int32} (m0 : C (0, 40) = some (.inr (5, fM b th pg gr lf an n lc ps rw tk po))) (m14 : C (0, 54) = some (.inl (cI, 30, .inl fo))) (m18 : C (0, 58) = some (.inl (cI, 4600, .inl pl))) (m20 : C (0, 60) = some (.inl (cI, 4600, .inl pr))) (m21 : C (0, 61) = some (.inl (cI, 4600, .inl pa))) (m24 : C (0, 64) = some (.inl (cI, 4500, .inl rr))) (m25 : C (0, 65) = some (.inl (cI, 4500, .inl rd))) (m26 : C (0, 66) = some (.inl (cZ, 4500, .inl rg))) (m31 : C (0, 71) = some (.inl (cI, 10, .inl aw))) (haw : ∀ j, j < 10 → ¬ aw j < 0 → ∃ Q c a L : Nat, Q < 4600 ∧ c ≤ 4500 ∧ a + c ≤ 4500 ∧ L < 30 ∧ aw j = nI Q ∧ pr Q = nI c ∧ pa Q = nI a ∧ pl Q = nI L) (h i what : Int32) : Met l y_M_row w_M_row ({ frames := 1, cells := 0, slots := 0, locals := 22 }) (va_Pc [.ref (b 40), .int h, .int i, .int what] (fr_G D hCl (hTy cI cZ cJ cP cO) z b C)) (va_Qi (fun (r : Int32) (u : Int32) => (u = 1 ∧ r = 0 ∧ (¬ inN h 10 ∨ ∃ j : Nat, j < 10 ∧ h = nI j ∧ (aw j < 0 ∨ ∃ Q c : Nat, Q < 4600 ∧ c ≤ 4500 ∧ aw j = nI Q ∧ pr Q = nI c ∧ (¬ inN what 4 ∨ ¬ inN i c)))) ∨ (u = 0 ∧ ∃ j Q c x L a : Nat, j < 10 ∧ h = nI j ∧ Q < 4600 ∧ c ≤ 4500 ∧ aw j = nI Q ∧ pr Q = nI c ∧ x < c ∧ i = nI x ∧ pa Q = nI a ∧ pl Q = nI L ∧ ((what = 0 ∧ r = rr (a + x)) ∨ (what = 1 ∧ r = rd (a + x)) ∨ (what = 2 ∧ r = if rg (a + x) = 0 then 0 else 1) ∨ (what = 3 ∧ r = fo L)))) (fun u t => fr_G D hCl (hTy cI cZ cJ cP cO) z ((fun _ => b) u) ((fun u => fr_up C (0, 40) (.inr (5, fM b u pg gr lf an n lc ps rw tk po))) u) t) (fr_A z)) 0 0 (fr_A z) := by
  refine Met.ofW (cc := b_M_row) (maxL := 7) (ret := (some .int)) (by decide) rfl ?_
  intro p e s m args below meth c s₁ B hml hv
  obtain ⟨rfl, hE, hK⟩ := hv
  have hx := B.exec
  have hb := B.bytes
  have hr := B.returns
  have hts := atoms_spec (ws := w_M_row) B.pre
  have hT : ∀ w ∈ hw_tbl, w.before _ s = true := fun w h => hts w (List.mem_cons_of_mem _ h)
  have hown : s.vm.findClass "HarvestStepsModel" = some m.cls := findClass_of_methodNamed B.named
  have hlocks := B.notSynchronized
  have hS : va_S (fr_A z) s.heap s.heap [] := va_S.rf
  have hl := lv_entry ([.ref (b 40), .int h, .int i, .int what]) (n := 7) (Nat.le_of_ble_eq_true rfl)
  rw [lg_entry_eq]
  generalize (lg_sl ([.ref (b 40), .int h, .int i, .int what]) ++ List.replicate (7 - (lg_sl ([.ref (b 40), .int h, .int i, .int what])).length) Slot.unset).toArray = ls at hl ⊢
  have hl : lv_has ls 7 [(0, .ref (b 40)), (1, .int h), (2, .int i), (3, .int what)] := hl
  refine lv_iload_n hx hb d_M_row_0 rfl (lv_at hl 1 rfl) ?_
  refine lv_iconst (v := 0) hx hb d_M_row_1 (by decide) ?_
  refine lv_bipush (v := 9) hx hb d_M_row_2 (by decide) ?_
  refine fr_calli (va_runS (As := [.int h, .int 0, .int 9]) (rest := []) ⟨hx, hb, hml, hown, hts⟩ (c_M_in l hE h 0 9) (va_cwS 3 hts (hw_goodS kw_585 kw_586 kw_26 kw_587) rfl rfl rfl (by decide +kernel) ⟨Nat.le_of_ble_eq_true rfl, Nat.le_of_ble_eq_true rfl⟩) ⟨fr_blind, fr_pre hE hK⟩ rfl rfl hl.1 rfl (lv_room (Nat.le_of_ble_eq_true rfl)) d_M_row_4 ⟨Nat.le_of_ble_eq_true rfl, Nat.le_of_ble_eq_true rfl⟩) hS (fun r_1 u_1 H locs w_1 hE hS => ?_)
  rcases w_1 with ⟨rfl, pw_1⟩ | ⟨rfl, pw_1⟩
  · skip
    replace pw_1 := (in0 (m := 10) (by decide) (by decide)).mp pw_1
    obtain ⟨j_1, hj_1, rfl⟩ := pw_1
    refine lv_if_eq (tgt := 32) hx hb d_M_row_7 (by decide) (fun c_2 => ?_) (fun c_2 => ?_)
    · skip
      exact absurd c_2 (by decide)
    · skip
      refine lv_aload_n hx hb d_M_row_10 rfl (lv_at hl 0 rfl) ?_
      refine fr_get (ci := 5) (Cn := hR_5) (T := hF_5) (N := 34) hx hb hT hi_5 hown hK hE (0, 40) rfl m0 rfl 31 (by decide) (hT _ kw_505) (fun _ h9 => h9) rfl d_M_row_11 ?_
      refine lv_iload_n hx hb d_M_row_14 rfl (lv_at hl 1 rfl) ?_
      refine fr_iald hx hb hK hE (0, 71) 0 rfl m31 rfl j_1 (rfl) (by omega) (by decide) d_M_row_15 ?_
      refine lv_if_lt (tgt := 32) hx hb d_M_row_16 (by decide) (fun c_3 => ?_) (fun c_3 => ?_)
      · skip
        refine lv_iconst (v := 0) hx hb d_M_row_32 (by decide) ?_
        refine lv_istore (lv' := [(4, .int 0), (0, .ref (b 40)), (1, .int (nI j_1)), (2, .int i), (3, .int what)]) hx hb d_M_row_33 hl (by decide) rfl (fun ls hl => ?_)
        refine lv_aload_n hx hb d_M_row_35 rfl (lv_at hl 1 rfl) ?_
        refine lv_iload hx hb d_M_row_36 (lv_at hl 0 rfl) ?_
        refine lv_if_eq (tgt := 66) hx hb d_M_row_38 (by decide) (fun c_4 => ?_) (fun c_4 => ?_)
        · skip
          refine lv_iconst (v := 1) hx hb d_M_row_66 (by decide) ?_
          refine fr_put (ci := 5) (v := .int 1) (ty := .int) (Cn := hR_5) (T := hF_5) (N := 34) hx hb hT hi_5 hy_5 ho_5 hn_5 hown hK hE hS (0, 40) rfl m0 rfl 0 (by decide) (hT _ kw_474) (fun _ h9 => h9) rfl (by decide +kernel) rfl rfl (Nat.le_of_ble_eq_true rfl) d_M_row_67 (fun H locs hE hS => ?_)
          refine lv_aload_n hx hb d_M_row_70 rfl (lv_at hl 1 rfl) ?_
          refine fr_get (ci := 5) (Cn := hR_5) (T := hF_5) (N := 34) hx hb hT hi_5 hown hK hE (0, 40) rfl rfl rfl 0 (by decide) (hT _ kw_474) (fun _ h9 => h9) rfl d_M_row_71 ?_
          refine lv_if_le (tgt := 79) hx hb d_M_row_74 (by decide) (fun c_5 => ?_) (fun c_5 => ?_)
          · skip
            exact absurd c_5 (by decide)
          · skip
            refine lv_iconst (v := 0) hx hb d_M_row_77 (by decide) ?_
            refine W.widen (k := 0) (n := 0) (Nat.le_of_ble_eq_true rfl) (Nat.le_of_ble_eq_true rfl) ?_
            exact W.iret (v := 0) hx hb hr (fun t9 ht9 hW9 => ⟨⟨0, 1, rfl, Or.inl ⟨rfl, rfl, Or.inr ⟨j_1, hj_1, rfl, Or.inl c_3⟩⟩, ⟨by rw [ht9]; exact hE, va_K.moved hW9.alike hK⟩⟩, hS.F ht9⟩) hS.2.2 d_M_row_78
        · skip
          exact absurd c_4 (by decide)
      · skip
        obtain ⟨j_2, k_2, a_2, l_2, hj_2, hk_2, hak_2, hl_2, e_2, e_3, e_4, e_5⟩ := haw j_1 hj_1 c_3
        refine lv_iload_n hx hb d_M_row_19 rfl (lv_at hl 3 rfl) ?_
        refine lv_iconst (v := 0) hx hb d_M_row_20 (by decide) ?_
        refine lv_iconst (v := 3) hx hb d_M_row_21 (by decide) ?_
        refine fr_calli (va_runS (As := [.int what, .int 0, .int 3]) (rest := []) ⟨hx, hb, hml, hown, hts⟩ (c_M_in l hE what 0 3) (va_cwS 3 hts (hw_goodS kw_585 kw_586 kw_26 kw_587) rfl rfl rfl (by decide +kernel) ⟨Nat.le_of_ble_eq_true rfl, Nat.le_of_ble_eq_true rfl⟩) ⟨fr_blind, fr_pre hE hK⟩ rfl rfl hl.1 rfl (lv_room (Nat.le_of_ble_eq_true rfl)) d_M_row_22 ⟨Nat.le_of_ble_eq_true rfl, Nat.le_of_ble_eq_true rfl⟩) hS (fun r_6 u_6 H locs w_6 hE hS => ?_)
        rcases w_6 with ⟨rfl, pw_6⟩ | ⟨rfl, pw_6⟩
        · skip
          replace pw_6 := (in0 (m := 4) (by decide) (by decide)).mp pw_6
          refine lv_if_eq (tgt := 32) hx hb d_M_row_25 (by decide) (fun c_7 => ?_) (fun c_7 => ?_)
          · skip
            exact absurd c_7 (by decide)
          · skip
            refine lv_iconst (v := 1) hx hb d_M_row_28 (by decide) ?_
            refine lv_goto (tgt := 33) hx hb d_M_row_29 (by decide) ?_
            refine lv_istore (lv' := [(4, .int 1), (0, .ref (b 40)), (1, .int (nI j_1)), (2, .int i), (3, .int what)]) hx hb d_M_row_33 hl (by decide) rfl (fun ls hl => ?_)
            refine lv_aload_n hx hb d_M_row_35 rfl (lv_at hl 1 rfl) ?_
            refine lv_iload hx hb d_M_row_36 (lv_at hl 0 rfl) ?_
            refine lv_if_eq (tgt := 66) hx hb d_M_row_38 (by decide) (fun c_8 => ?_) (fun c_8 => ?_)
            · skip
              exact absurd c_8 (by decide)
            · skip
              refine lv_iload_n hx hb d_M_row_41 rfl (lv_at hl 3 rfl) ?_
              refine lv_iconst (v := 0) hx hb d_M_row_42 (by decide) ?_
              refine lv_aload_n hx hb d_M_row_43 rfl (lv_at hl 1 rfl) ?_
              refine fr_get (ci := 5) (Cn := hR_5) (T := hF_5) (N := 34) hx hb hT hi_5 hown hK hE (0, 40) rfl m0 rfl 20 (by decide) (hT _ kw_494) (fun _ h9 => h9) rfl d_M_row_44 ?_
              refine lv_aload_n hx hb d_M_row_47 rfl (lv_at hl 1 rfl) ?_
              refine fr_get (ci := 5) (Cn := hR_5) (T := hF_5) (N := 34) hx hb hT hi_5 hown hK hE (0, 40) rfl m0 rfl 31 (by decide) (hT _ kw_505) (fun _ h9 => h9) rfl d_M_row_48 ?_
              refine lv_iload_n hx hb d_M_row_51 rfl (lv_at hl 2 rfl) ?_
              refine fr_iald hx hb hK hE (0, 71) 0 rfl m31 rfl j_1 (rfl) (by omega) (by decide) d_M_row_52 ?_
              refine lv_topi (fun y_9 ey_9 => ?_)
              obtain rfl : y_9 = nI j_2 := ey_9.trans (e_2)
              refine fr_iald hx hb hK hE (0, 60) 0 rfl m20 rfl j_2 (rfl) (by omega) (by decide) d_M_row_53 ?_
              refine lv_topi (fun y_10 ey_10 => ?_)
              obtain rfl : y_10 = nI k_2 := ey_10.trans (e_3)
              refine lv_iconst (v := 1) hx hb d_M_row_54 (by decide) ?_
              refine lv_isub hx hb d_M_row_55 ?_
              refine fr_calli (va_runS (As := [.int i, .int 0, .int ((nI k_2) - 1)]) (rest := [.ref (b 40)]) ⟨hx, hb, hml, hown, hts⟩ (c_M_in l hE i 0 (nI k_2 - 1)) (va_cwS 3 hts (hw_goodS kw_585 kw_586 kw_26 kw_587) rfl rfl rfl (by decide +kernel) ⟨Nat.le_of_ble_eq_true rfl, Nat.le_of_ble_eq_true rfl⟩) ⟨fr_blind, fr_pre hE hK⟩ rfl rfl hl.1 rfl (lv_room (Nat.le_of_ble_eq_true rfl)) d_M_row_56 ⟨Nat.le_of_ble_eq_true rfl, Nat.le_of_ble_eq_true rfl⟩) hS (fun r_11 u_11 H locs w_11 hE hS => ?_)
              rcases w_11 with ⟨rfl, pw_11⟩ | ⟨rfl, pw_11⟩
              · skip
                replace pw_11 := (in0 (m := k_2) (nI_m1 (by omega)) (by omega)).mp pw_11
                obtain ⟨x_2, hx_2, rfl⟩ := pw_11
                refine lv_if_eq (tgt := 66) hx hb d_M_row_59 (by decide) (fun c_12 => ?_) (fun c_12 => ?_)
                · skip
                  exact absurd c_12 (by decide)
                · skip
                  refine lv_iconst (v := 0) hx hb d_M_row_62 (by decide) ?_
                  refine lv_goto (tgt := 67) hx hb d_M_row_63 (by decide) ?_
                  refine fr_put (ci := 5) (v := .int 0) (ty := .int) (Cn := hR_5) (T := hF_5) (N := 34) hx hb hT hi_5 hy_5 ho_5 hn_5 hown hK hE hS (0, 40) rfl m0 rfl 0 (by decide) (hT _ kw_474) (fun _ h9 => h9) rfl (by decide +kernel) rfl rfl (Nat.le_of_ble_eq_true rfl) d_M_row_67 (fun H locs hE hS => ?_)
                  refine lv_aload_n hx hb d_M_row_70 rfl (lv_at hl 1 rfl) ?_
                  refine fr_get (ci := 5) (Cn := hR_5) (T := hF_5) (N := 34) hx hb hT hi_5 hown hK hE (0, 40) rfl rfl rfl 0 (by decide) (hT _ kw_474) (fun _ h9 => h9) rfl d_M_row_71 ?_
                  refine lv_if_le (tgt := 79) hx hb d_M_row_74 (by decide) (fun c_13 => ?_) (fun c_13 => ?_)
                  · skip
                    refine lv_aload_n hx hb d_M_row_79 rfl (lv_at hl 1 rfl) ?_
                    refine fr_get (ci := 5) (Cn := hR_5) (T := hF_5) (N := 34) hx hb hT hi_5 hown hK hE (0, 40) rfl rfl rfl 31 (by decide) (hT _ kw_505) (fun _ h9 => h9) rfl d_M_row_80 ?_
                    refine lv_iload_n hx hb d_M_row_83 rfl (lv_at hl 2 rfl) ?_
                    refine fr_iald hx hb hK hE (0, 71) 0 rfl m31 rfl j_1 (rfl) (by omega) (by decide) d_M_row_84 ?_
                    refine lv_topi (fun y_14 ey_14 => ?_)
                    obtain rfl : y_14 = nI j_2 := ey_14.trans (e_2)
                    refine lv_istore (lv' := [(5, .int (nI j_2)), (4, .int 1), (0, .ref (b 40)), (1, .int (nI j_1)), (2, .int (nI x_2)), (3, .int what)]) hx hb d_M_row_85 hl (by decide) rfl (fun ls hl => ?_)
                    refine lv_aload_n hx hb d_M_row_87 rfl (lv_at hl 2 rfl) ?_
                    refine fr_get (ci := 5) (Cn := hR_5) (T := hF_5) (N := 34) hx hb hT hi_5 hown hK hE (0, 40) rfl rfl rfl 21 (by decide) (hT _ kw_495) (fun _ h9 => h9) rfl d_M_row_88 ?_
                    refine lv_iload hx hb d_M_row_91 (lv_at hl 0 rfl) ?_
                    refine fr_iald hx hb hK hE (0, 61) 0 rfl m21 rfl j_2 (rfl) (by omega) (by decide) d_M_row_93 ?_
                    refine lv_topi (fun y_15 ey_15 => ?_)
                    obtain rfl : y_15 = nI a_2 := ey_15.trans (e_4)
                    refine lv_iload_n hx hb d_M_row_94 rfl (lv_at hl 4 rfl) ?_
                    refine lv_iadd hx hb d_M_row_95 ?_
                    refine lv_topi (fun y_16 ey_16 => ?_)
                    obtain rfl : y_16 = nI (a_2 + x_2) := ey_16.trans (nI_add _ _)
                    refine lv_istore (lv' := [(6, .int (nI (a_2 + x_2))), (5, .int (nI j_2)), (4, .int 1), (0, .ref (b 40)), (1, .int (nI j_1)), (2, .int (nI x_2)), (3, .int what)]) hx hb d_M_row_96 hl (by decide) rfl (fun ls hl => ?_)
                    refine lv_iload_n hx hb d_M_row_98 rfl (lv_at hl 6 rfl) ?_
                    refine lv_if_ne (tgt := 112) hx hb d_M_row_99 (by decide) (fun c_17 => ?_) (fun c_17 => ?_)
                    · skip
                      refine lv_iload_n hx hb d_M_row_112 rfl (lv_at hl 6 rfl) ?_
                      refine lv_iconst (v := 1) hx hb d_M_row_113 (by decide) ?_
                      refine lv_icmp_ne (tgt := 127) hx hb d_M_row_114 (by decide) (fun c_18 => ?_) (fun c_18 => ?_)
                      · skip
                        refine lv_iload_n hx hb d_M_row_127 rfl (lv_at hl 6 rfl) ?_
                        refine lv_iconst (v := 2) hx hb d_M_row_128 (by decide) ?_
                        refine lv_icmp_ne (tgt := 150) hx hb d_M_row_129 (by decide) (fun c_19 => ?_) (fun c_19 => ?_)
                        · skip
                          refine lv_aload_n hx hb d_M_row_150 rfl (lv_at hl 3 rfl) ?_
                          refine fr_get (ci := 5) (Cn := hR_5) (T := hF_5) (N := 34) hx hb hT hi_5 hown hK hE (0, 40) rfl rfl rfl 14 (by decide) (hT _ kw_488) (fun _ h9 => h9) rfl d_M_row_151 ?_
                          refine lv_aload_n hx hb d_M_row_154 rfl (lv_at hl 3 rfl) ?_
                          refine fr_get (ci := 5) (Cn := hR_5) (T := hF_5) (N := 34) hx hb hT hi_5 hown hK hE (0, 40) rfl rfl rfl 18 (by decide) (hT _ kw_492) (fun _ h9 => h9) rfl d_M_row_155 ?_
                          refine lv_iload hx hb d_M_row_158 (lv_at hl 1 rfl) ?_
                          refine fr_iald hx hb hK hE (0, 58) 0 rfl m18 rfl j_2 (rfl) (by omega) (by decide) d_M_row_160 ?_
                          refine lv_topi (fun y_20 ey_20 => ?_)
                          obtain rfl : y_20 = nI l_2 := ey_20.trans (e_5)
                          refine fr_iald hx hb hK hE (0, 54) 0 rfl m14 rfl l_2 (rfl) (by omega) (by decide) d_M_row_161 ?_
                          refine W.widen (k := 0) (n := 0) (Nat.le_of_ble_eq_true rfl) (Nat.le_of_ble_eq_true rfl) ?_
                          exact W.iret (v := fo l_2) hx hb hr (fun t9 ht9 hW9 => ⟨⟨fo l_2, 0, rfl, Or.inr ⟨rfl, j_1, j_2, k_2, x_2, l_2, a_2, hj_1, rfl, hj_2, hk_2, e_2, e_3, hx_2, rfl, e_4, e_5, Or.inr (Or.inr (Or.inr ⟨in4_3 pw_6 c_17 c_18 c_19, rfl⟩))⟩, ⟨by rw [ht9]; exact hE, va_K.moved hW9.alike hK⟩⟩, hS.F ht9⟩) hS.2.2 d_M_row_162
                        · skip
                          refine lv_aload_n hx hb d_M_row_132 rfl (lv_at hl 3 rfl) ?_
                          refine fr_get (ci := 5) (Cn := hR_5) (T := hF_5) (N := 34) hx hb hT hi_5 hown hK hE (0, 40) rfl rfl rfl 26 (by decide) (hT _ kw_500) (fun _ h9 => h9) rfl d_M_row_133 ?_
                          refine lv_iload hx hb d_M_row_136 (lv_at hl 0 rfl) ?_
                          refine fr_zald hx hb hK hE (0, 66) 1 rfl m26 rfl (a_2 + x_2) (rfl) (by omega) (by decide) d_M_row_138 ?_
                          refine lv_if_eq (tgt := 146) hx hb d_M_row_139 (by decide) (fun c_21 => ?_) (fun c_21 => ?_)
                          · skip
                            refine lv_iconst (v := 0) hx hb d_M_row_146 (by decide) ?_
                            refine lv_goto (tgt := 162) hx hb d_M_row_147 (by decide) ?_
                            refine W.widen (k := 0) (n := 0) (Nat.le_of_ble_eq_true rfl) (Nat.le_of_ble_eq_true rfl) ?_
                            exact W.iret (v := 0) hx hb hr (fun t9 ht9 hW9 => ⟨⟨0, 0, rfl, Or.inr ⟨rfl, j_1, j_2, k_2, x_2, l_2, a_2, hj_1, rfl, hj_2, hk_2, e_2, e_3, hx_2, rfl, e_4, e_5, Or.inr (Or.inr (Or.inl ⟨c_19, by rw [if_pos c_21]⟩))⟩, ⟨by rw [ht9]; exact hE, va_K.moved hW9.alike hK⟩⟩, hS.F ht9⟩) hS.2.2 d_M_row_162
                          · skip
                            refine lv_iconst (v := 1) hx hb d_M_row_142 (by decide) ?_
                            refine lv_goto (tgt := 162) hx hb d_M_row_143 (by decide) ?_
                            refine W.widen (k := 0) (n := 0) (Nat.le_of_ble_eq_true rfl) (Nat.le_of_ble_eq_true rfl) ?_
                            exact W.iret (v := 1) hx hb hr (fun t9 ht9 hW9 => ⟨⟨1, 0, rfl, Or.inr ⟨rfl, j_1, j_2, k_2, x_2, l_2, a_2, hj_1, rfl, hj_2, hk_2, e_2, e_3, hx_2, rfl, e_4, e_5, Or.inr (Or.inr (Or.inl ⟨c_19, by rw [if_neg c_21]⟩))⟩, ⟨by rw [ht9]; exact hE, va_K.moved hW9.alike hK⟩⟩, hS.F ht9⟩) hS.2.2 d_M_row_162
                      · skip
                        refine lv_aload_n hx hb d_M_row_117 rfl (lv_at hl 3 rfl) ?_
                        refine fr_get (ci := 5) (Cn := hR_5) (T := hF_5) (N := 34) hx hb hT hi_5 hown hK hE (0, 40) rfl rfl rfl 25 (by decide) (hT _ kw_499) (fun _ h9 => h9) rfl d_M_row_118 ?_
                        refine lv_iload hx hb d_M_row_121 (lv_at hl 0 rfl) ?_
                        refine fr_iald hx hb hK hE (0, 65) 0 rfl m25 rfl (a_2 + x_2) (rfl) (by omega) (by decide) d_M_row_123 ?_
                        refine lv_goto (tgt := 162) hx hb d_M_row_124 (by decide) ?_
                        refine W.widen (k := 0) (n := 0) (Nat.le_of_ble_eq_true rfl) (Nat.le_of_ble_eq_true rfl) ?_
                        exact W.iret (v := rd (a_2 + x_2)) hx hb hr (fun t9 ht9 hW9 => ⟨⟨rd (a_2 + x_2), 0, rfl, Or.inr ⟨rfl, j_1, j_2, k_2, x_2, l_2, a_2, hj_1, rfl, hj_2, hk_2, e_2, e_3, hx_2, rfl, e_4, e_5, Or.inr (Or.inl ⟨c_18, rfl⟩)⟩, ⟨by rw [ht9]; exact hE, va_K.moved hW9.alike hK⟩⟩, hS.F ht9⟩) hS.2.2 d_M_row_162
                    · skip
                      refine lv_aload_n hx hb d_M_row_102 rfl (lv_at hl 3 rfl) ?_
                      refine fr_get (ci := 5) (Cn := hR_5) (T := hF_5) (N := 34) hx hb hT hi_5 hown hK hE (0, 40) rfl rfl rfl 24 (by decide) (hT _ kw_498) (fun _ h9 => h9) rfl d_M_row_103 ?_
                      refine lv_iload hx hb d_M_row_106 (lv_at hl 0 rfl) ?_
                      refine fr_iald hx hb hK hE (0, 64) 0 rfl m24 rfl (a_2 + x_2) (rfl) (by omega) (by decide) d_M_row_108 ?_
                      refine lv_goto (tgt := 162) hx hb d_M_row_109 (by decide) ?_
                      refine W.widen (k := 0) (n := 0) (Nat.le_of_ble_eq_true rfl) (Nat.le_of_ble_eq_true rfl) ?_
                      exact W.iret (v := rr (a_2 + x_2)) hx hb hr (fun t9 ht9 hW9 => ⟨⟨rr (a_2 + x_2), 0, rfl, Or.inr ⟨rfl, j_1, j_2, k_2, x_2, l_2, a_2, hj_1, rfl, hj_2, hk_2, e_2, e_3, hx_2, rfl, e_4, e_5, Or.inl ⟨c_17, rfl⟩⟩, ⟨by rw [ht9]; exact hE, va_K.moved hW9.alike hK⟩⟩, hS.F ht9⟩) hS.2.2 d_M_row_162
                  · skip
                    exact absurd c_13 (by decide)
              · skip
                replace pw_11 := fun q => pw_11 ((in0 (m := k_2) (nI_m1 (by omega)) (by omega)).mpr q)
                refine lv_if_eq (tgt := 66) hx hb d_M_row_59 (by decide) (fun c_22 => ?_) (fun c_22 => ?_)
                · skip
                  refine lv_iconst (v := 1) hx hb d_M_row_66 (by decide) ?_
                  refine fr_put (ci := 5) (v := .int 1) (ty := .int) (Cn := hR_5) (T := hF_5) (N := 34) hx hb hT hi_5 hy_5 ho_5 hn_5 hown hK hE hS (0, 40) rfl m0 rfl 0 (by decide) (hT _ kw_474) (fun _ h9 => h9) rfl (by decide +kernel) rfl rfl (Nat.le_of_ble_eq_true rfl) d_M_row_67 (fun H locs hE hS => ?_)
                  refine lv_aload_n hx hb d_M_row_70 rfl (lv_at hl 1 rfl) ?_
                  refine fr_get (ci := 5) (Cn := hR_5) (T := hF_5) (N := 34) hx hb hT hi_5 hown hK hE (0, 40) rfl rfl rfl 0 (by decide) (hT _ kw_474) (fun _ h9 => h9) rfl d_M_row_71 ?_
                  refine lv_if_le (tgt := 79) hx hb d_M_row_74 (by decide) (fun c_23 => ?_) (fun c_23 => ?_)
                  · skip
                    exact absurd c_23 (by decide)
                  · skip
                    refine lv_iconst (v := 0) hx hb d_M_row_77 (by decide) ?_
                    refine W.widen (k := 0) (n := 0) (Nat.le_of_ble_eq_true rfl) (Nat.le_of_ble_eq_true rfl) ?_
                    exact W.iret (v := 0) hx hb hr (fun t9 ht9 hW9 => ⟨⟨0, 1, rfl, Or.inl ⟨rfl, rfl, Or.inr ⟨j_1, hj_1, rfl, Or.inr ⟨j_2, k_2, hj_2, hk_2, e_2, e_3, Or.inr pw_11⟩⟩⟩, ⟨by rw [ht9]; exact hE, va_K.moved hW9.alike hK⟩⟩, hS.F ht9⟩) hS.2.2 d_M_row_78
                · skip
                  exact absurd c_22 (by decide)
        · skip
          replace pw_6 := fun q => pw_6 ((in0 (m := 4) (by decide) (by decide)).mpr q)
          refine lv_if_eq (tgt := 32) hx hb d_M_row_25 (by decide) (fun c_24 => ?_) (fun c_24 => ?_)
          · skip
            refine lv_iconst (v := 0) hx hb d_M_row_32 (by decide) ?_
            refine lv_istore (lv' := [(4, .int 0), (0, .ref (b 40)), (1, .int (nI j_1)), (2, .int i), (3, .int what)]) hx hb d_M_row_33 hl (by decide) rfl (fun ls hl => ?_)
            refine lv_aload_n hx hb d_M_row_35 rfl (lv_at hl 1 rfl) ?_
            refine lv_iload hx hb d_M_row_36 (lv_at hl 0 rfl) ?_
            refine lv_if_eq (tgt := 66) hx hb d_M_row_38 (by decide) (fun c_25 => ?_) (fun c_25 => ?_)
            · skip
              refine lv_iconst (v := 1) hx hb d_M_row_66 (by decide) ?_
              refine fr_put (ci := 5) (v := .int 1) (ty := .int) (Cn := hR_5) (T := hF_5) (N := 34) hx hb hT hi_5 hy_5 ho_5 hn_5 hown hK hE hS (0, 40) rfl m0 rfl 0 (by decide) (hT _ kw_474) (fun _ h9 => h9) rfl (by decide +kernel) rfl rfl (Nat.le_of_ble_eq_true rfl) d_M_row_67 (fun H locs hE hS => ?_)
              refine lv_aload_n hx hb d_M_row_70 rfl (lv_at hl 1 rfl) ?_
              refine fr_get (ci := 5) (Cn := hR_5) (T := hF_5) (N := 34) hx hb hT hi_5 hown hK hE (0, 40) rfl rfl rfl 0 (by decide) (hT _ kw_474) (fun _ h9 => h9) rfl d_M_row_71 ?_
              refine lv_if_le (tgt := 79) hx hb d_M_row_74 (by decide) (fun c_26 => ?_) (fun c_26 => ?_)
              · skip
                exact absurd c_26 (by decide)
              · skip
                refine lv_iconst (v := 0) hx hb d_M_row_77 (by decide) ?_
                refine W.widen (k := 0) (n := 0) (Nat.le_of_ble_eq_true rfl) (Nat.le_of_ble_eq_true rfl) ?_
                exact W.iret (v := 0) hx hb hr (fun t9 ht9 hW9 => ⟨⟨0, 1, rfl, Or.inl ⟨rfl, rfl, Or.inr ⟨j_1, hj_1, rfl, Or.inr ⟨j_2, k_2, hj_2, hk_2, e_2, e_3, Or.inl pw_6⟩⟩⟩, ⟨by rw [ht9]; exact hE, va_K.moved hW9.alike hK⟩⟩, hS.F ht9⟩) hS.2.2 d_M_row_78
            · skip
              exact absurd c_25 (by decide)
          · skip
            exact absurd c_24 (by decide)
  · skip
    replace pw_1 := fun q => pw_1 ((in0 (m := 10) (by decide) (by decide)).mpr q)
    refine lv_if_eq (tgt := 32) hx hb d_M_row_7 (by decide) (fun c_27 => ?_) (fun c_27 => ?_)
    · skip
      refine lv_iconst (v := 0) hx hb d_M_row_32 (by decide) ?_
      refine lv_istore (lv' := [(4, .int 0), (0, .ref (b 40)), (1, .int h), (2, .int i), (3, .int what)]) hx hb d_M_row_33 hl (by decide) rfl (fun ls hl => ?_)
      refine lv_aload_n hx hb d_M_row_35 rfl (lv_at hl 1 rfl) ?_
      refine lv_iload hx hb d_M_row_36 (lv_at hl 0 rfl) ?_
      refine lv_if_eq (tgt := 66) hx hb d_M_row_38 (by decide) (fun c_28 => ?_) (fun c_28 => ?_)
      · skip
        refine lv_iconst (v := 1) hx hb d_M_row_66 (by decide) ?_
        refine fr_put (ci := 5) (v := .int 1) (ty := .int) (Cn := hR_5) (T := hF_5) (N := 34) hx hb hT hi_5 hy_5 ho_5 hn_5 hown hK hE hS (0, 40) rfl m0 rfl 0 (by decide) (hT _ kw_474) (fun _ h9 => h9) rfl (by decide +kernel) rfl rfl (Nat.le_of_ble_eq_true rfl) d_M_row_67 (fun H locs hE hS => ?_)
        refine lv_aload_n hx hb d_M_row_70 rfl (lv_at hl 1 rfl) ?_
        refine fr_get (ci := 5) (Cn := hR_5) (T := hF_5) (N := 34) hx hb hT hi_5 hown hK hE (0, 40) rfl rfl rfl 0 (by decide) (hT _ kw_474) (fun _ h9 => h9) rfl d_M_row_71 ?_
        refine lv_if_le (tgt := 79) hx hb d_M_row_74 (by decide) (fun c_29 => ?_) (fun c_29 => ?_)
        · skip
          exact absurd c_29 (by decide)
        · skip
          refine lv_iconst (v := 0) hx hb d_M_row_77 (by decide) ?_
          refine W.widen (k := 0) (n := 0) (Nat.le_of_ble_eq_true rfl) (Nat.le_of_ble_eq_true rfl) ?_
          exact W.iret (v := 0) hx hb hr (fun t9 ht9 hW9 => ⟨⟨0, 1, rfl, Or.inl ⟨rfl, rfl, Or.inl pw_1⟩, ⟨by rw [ht9]; exact hE, va_K.moved hW9.alike hK⟩⟩, hS.F ht9⟩) hS.2.2 d_M_row_78
      · skip
        exact absurd c_28 (by decide)
    · skip
      exact absurd c_27 (by decide)
