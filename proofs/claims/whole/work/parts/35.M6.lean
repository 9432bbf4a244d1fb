/-- what the reference knows of a token: its page Q, of list L; if it leads nowhere yet: where its page begins -/
def mTok (pg rw j Q L : Nat) (tp pl le pf mn li : Nat → Int32) : Prop := Q < 4600 ∧ L < 30 ∧ tp j = nI Q ∧ pl Q = nI L ∧ (¬ le j < 0 → inN (le j) 4600) ∧ (le j < 0 → ∃ (F mL : Nat) (g : Nat → Nat), pf Q = nI F ∧ mn L = nI mL ∧ mL ≤ 150 ∧ F + pg ≤ mL ∧ rw + (mL - (F + pg)) ≤ 4500 ∧ ∀ k, k < mL → li (150 * L + k) = nI (g k) ∧ g k < 150)
set_option maxHeartbeats 4000000 in
set_option maxRecDepth 100000 in
theorem c_M_resume (l : Launch) {D : va_G} {z : Nat} {b : Nat → Nat} {C : fr_C} {H9 : Heap} (h9 : fr_W D hCl z b C H9) {cI cZ cJ cP cO : ClassId} {th : Int32} {pg gr lf an n lc ps rw tk po : Nat} {dy : Nat → Int32} {dl : Nat → Int32} {ac : Nat → Int32} {mn : Nat → Int32} {si : Nat → Int32} {ol : Nat → Int32} {li : Nat → Int32} {pl : Nat → Int32} {pf : Nat → Int32} {pr : Nat → Int32} {pa : Nat → Int32} {pt : Nat → Int32} {rr : Nat → Int32} {rd : Nat → Int32} {rg : Nat → Int32} {tp : Nat → Int32} {md : Nat → Int32} {le : Nat → Int32} {aw : Nat → Int32} {cs : Nat → Int32} (m0 : C (0, 40) = some (.inr (5, fM b th pg gr lf an n lc ps rw tk po))) (m7 : C (0, 47) = some (.inl (cI, 150, .inl dy))) (m8 : C (0, 48) = some (.inl (cZ, 150, .inl dl))) (m9 : C (0, 49) = some (.inl (cI, 150, .inl ac))) (m12 : C (0, 52) = some (.inl (cI, 30, .inl mn))) (m13 : C (0, 53) = some (.inl (cI, 30, .inl si))) (m15 : C (0, 55) = some (.inl (cI, 30, .inl ol))) (m16 : C (0, 56) = some (.inl (cI, 4500, .inl li))) (m18 : C (0, 58) = some (.inl (cI, 4600, .inl pl))) (m19 : C (0, 59) = some (.inl (cI, 4600, .inl pf))) (m20 : C (0, 60) = some (.inl (cI, 4600, .inl pr))) (m21 : C (0, 61) = some (.inl (cI, 4600, .inl pa))) (m22 : C (0, 62) = some (.inl (cI, 4600, .inl pt))) (m24 : C (0, 64) = some (.inl (cI, 4500, .inl rr))) (m25 : C (0, 65) = some (.inl (cI, 4500, .inl rd))) (m26 : C (0, 66) = some (.inl (cZ, 4500, .inl rg))) (m28 : C (0, 68) = some (.inl (cI, 4600, .inl tp))) (m29 : C (0, 69) = some (.inl (cI, 4600, .inl md))) (m30 : C (0, 70) = some (.inl (cI, 4600, .inl le))) (m31 : C (0, 71) = some (.inl (cI, 10, .inl aw))) (m32 : C (0, 72) = some (.inl (cI, 10, .inl cs))) (hps : ps < 4600) (htk : tk < 4600) (hpg : pg ≤ 50) (hdl : ∀ j, vp_nar .boolean (dl j) = dl j) (htok : ∀ j, j < tk → ∃ Q L : Nat, mTok pg rw j Q L tp pl le pf mn li) (h tok t : Int32) : Met l y_M_resume w_M_resume ({ frames := 3, cells := 0, slots := 0, locals := 70 }) (va_Pc [.ref (b 40), .int h, .int tok, .int t] (fr_G D hCl (hTy cI cZ cJ cP cO) z b C)) (va_Qi (fun (r : Int32) (u : fr_C) => (((¬ inN h 10 ∧ r = -1) ∨ (inN h 10 ∧ ¬ inN t 1000000001 ∧ r = -2) ∨ (inN h 10 ∧ inN t 1000000001 ∧ ¬ inN tok tk ∧ r = -15) ∨ (∃ hh j Q L : Nat, hh < 10 ∧ h = nI hh ∧ inN t 1000000001 ∧ j < tk ∧ tok = nI j ∧ mTok pg rw j Q L tp pl le pf mn li ∧ (¬ ol L = h ∨ ¬ t - md j ≤ nI lf) ∧ r = -15)) ∧ u = fr_up C (0, 40) (.inr (5, fM b 0 pg gr lf an n lc ps rw tk po))) ∨ (∃ hh j Q L : Nat, hh < 10 ∧ h = nI hh ∧ inN t 1000000001 ∧ j < tk ∧ tok = nI j ∧ mTok pg rw j Q L tp pl le pf mn li ∧ ol L = h ∧ t - md j ≤ nI lf ∧ ((∃ R : Nat, R < 4600 ∧ le j = nI R ∧ r = pr R ∧ u = mAns (fr_up C (0, 40) (.inr (5, fM b 0 pg gr lf an n lc ps rw tk po))) cI aw cs pr hh R) ∨ (le j < 0 ∧ ∃ (F mL : Nat) (g : Nat → Nat) (Y : fr_C × (Nat → Int32) × (Nat → Int32) × (Nat → Int32)) (le' : Nat → Int32), pf Q = nI F ∧ mn L = nI mL ∧ mL ≤ 150 ∧ F + pg ≤ mL ∧ (∀ k, k < mL → li (150 * L + k) = nI (g k) ∧ g k < 150) ∧ mPage (fr_up C (0, 40) (.inr (5, fM b 0 pg gr lf an n lc ps rw tk po))) Y.1 cI cZ b 0 pg gr lf an n lc ps rw tk po pl pf pr pa pt rr rd rg tp md le dy dl L (F + pg) t ((if F + pg + pg < mL then F + pg + pg else mL) - (F + pg)) (kp (keepB ac (si L)) g (F + pg) ((if F + pg + pg < mL then F + pg + pg else mL) - (F + pg))) (F + pg + ((if F + pg + pg < mL then F + pg + pg else mL) - (F + pg)) < mL) Y.2.1 Y.2.2.1 Y.2.2.2 ∧ ((F + pg + ((if F + pg + pg < mL then F + pg + pg else mL) - (F + pg)) < mL ∧ le' = upd (upd le tk (-1)) j (nI ps)) ∨ (¬ F + pg + ((if F + pg + pg < mL then F + pg + pg else mL) - (F + pg)) < mL ∧ le' = upd le j (nI ps))) ∧ r = nI (kp (keepB ac (si L)) g (F + pg) ((if F + pg + pg < mL then F + pg + pg else mL) - (F + pg))).length ∧ u = mAns (fr_up Y.1 (0, 70) (.inl (cI, 4600, .inl le'))) cI aw cs (upd pr ps (nI (kp (keepB ac (si L)) g (F + pg) ((if F + pg + pg < mL then F + pg + pg else mL) - (F + pg))).length)) hh ps)))) (fun u t => fr_G D hCl (hTy cI cZ cJ cP cO) z ((fun _ => b) u) ((fun u => u) u) t) (fr_A z)) 0 0 (fr_A z) := by
  refine Met.ofW (cc := b_M_resume) (maxL := 5) (ret := (some .int)) (by decide) rfl ?_
  intro p e s m args below meth c s₁ B hml hv
  obtain ⟨rfl, hE, hK⟩ := hv
  have hx := B.exec
  have hb := B.bytes
  have hr := B.returns
  have hts := atoms_spec (ws := w_M_resume) B.pre
  have hT : ∀ w ∈ hw_tbl, w.before _ s = true := fun w h => hts w (List.mem_cons_of_mem _ h)
  have hown : s.vm.findClass "HarvestStepsModel" = some m.cls := findClass_of_methodNamed B.named
  have hlocks := B.notSynchronized
  have hS : va_S (fr_A z) s.heap s.heap [] := va_S.rf
  have hl := lv_entry ([.ref (b 40), .int h, .int tok, .int t]) (n := 5) (Nat.le_of_ble_eq_true rfl)
  rw [lg_entry_eq]
  generalize (lg_sl ([.ref (b 40), .int h, .int tok, .int t]) ++ List.replicate (5 - (lg_sl ([.ref (b 40), .int h, .int tok, .int t])).length) Slot.unset).toArray = ls at hl ⊢
  have hl : lv_has ls 5 [(0, .ref (b 40)), (1, .int h), (2, .int tok), (3, .int t)] := hl
  refine lv_aload_n hx hb d_M_resume_0 rfl (lv_at hl 0 rfl) ?_
  refine lv_iconst (v := 0) hx hb d_M_resume_1 (by decide) ?_
  refine fr_put (ci := 5) (v := .int 0) (ty := .int) (Cn := hR_5) (T := hF_5) (N := 34) hx hb hT hi_5 hy_5 ho_5 hn_5 hown hK hE hS (0, 40) rfl m0 rfl 0 (by decide) (hT _ kw_474) (fun _ h9 => h9) rfl (by decide +kernel) rfl rfl (Nat.le_of_ble_eq_true rfl) d_M_resume_2 (fun H locs hE hS => ?_)
  refine lv_iload_n hx hb d_M_resume_5 rfl (lv_at hl 1 rfl) ?_
  refine lv_iconst (v := 0) hx hb d_M_resume_6 (by decide) ?_
  refine lv_bipush (v := 9) hx hb d_M_resume_7 (by decide) ?_
  refine fr_calli (va_runS (As := [.int h, .int 0, .int 9]) (rest := []) ⟨hx, hb, hml, hown, hts⟩ (c_M_in l hE h 0 9) (va_cwS 3 hts (hw_goodS kw_585 kw_586 kw_26 kw_587) rfl rfl rfl (by decide +kernel) ⟨Nat.le_of_ble_eq_true rfl, Nat.le_of_ble_eq_true rfl⟩) ⟨fr_blind, fr_pre hE hK⟩ rfl rfl hl.1 rfl (lv_room (Nat.le_of_ble_eq_true rfl)) d_M_resume_9 ⟨Nat.le_of_ble_eq_true rfl, Nat.le_of_ble_eq_true rfl⟩) hS (fun r_1 u_1 H locs w_1 hE hS => ?_)
  rcases w_1 with ⟨rfl, pw_1⟩ | ⟨rfl, pw_1⟩
  · skip
    replace pw_1 := (in0 (m := 10) (by decide) (by decide)).mp pw_1
    obtain ⟨j_1, hj_1, rfl⟩ := pw_1
    refine lv_if_ne (tgt := 17) hx hb d_M_resume_12 (by decide) (fun c_2 => ?_) (fun c_2 => ?_)
    · skip
      refine lv_iload_n hx hb d_M_resume_17 rfl (lv_at hl 3 rfl) ?_
      refine lv_iconst (v := 0) hx hb d_M_resume_18 (by decide) ?_
      refine lv_ldc (v := 1000000000) hx hb hown (hT _ kw_616) d_M_resume_19 ?_
      refine fr_calli (va_runS (As := [.int t, .int 0, .int 1000000000]) (rest := []) ⟨hx, hb, hml, hown, hts⟩ (c_M_in l hE t 0 1000000000) (va_cwS 3 hts (hw_goodS kw_585 kw_586 kw_26 kw_587) rfl rfl rfl (by decide +kernel) ⟨Nat.le_of_ble_eq_true rfl, Nat.le_of_ble_eq_true rfl⟩) ⟨fr_blind, fr_pre hE hK⟩ rfl rfl hl.1 rfl (lv_room (Nat.le_of_ble_eq_true rfl)) d_M_resume_21 ⟨Nat.le_of_ble_eq_true rfl, Nat.le_of_ble_eq_true rfl⟩) hS (fun r_3 u_3 H locs w_3 hE hS => ?_)
      rcases w_3 with ⟨rfl, pw_3⟩ | ⟨rfl, pw_3⟩
      · skip
        replace pw_3 := (in0 (m := 1000000001) (by decide) (by decide)).mp pw_3
        refine lv_if_ne (tgt := 30) hx hb d_M_resume_24 (by decide) (fun c_4 => ?_) (fun c_4 => ?_)
        · skip
          refine lv_iload_n hx hb d_M_resume_30 rfl (lv_at hl 2 rfl) ?_
          refine lv_iconst (v := 0) hx hb d_M_resume_31 (by decide) ?_
          refine lv_aload_n hx hb d_M_resume_32 rfl (lv_at hl 0 rfl) ?_
          refine fr_get (ci := 5) (Cn := hR_5) (T := hF_5) (N := 34) hx hb hT hi_5 hown hK hE (0, 40) rfl rfl rfl 27 (by decide) (hT _ kw_501) (fun _ h9 => h9) rfl d_M_resume_33 ?_
          refine lv_iconst (v := 1) hx hb d_M_resume_36 (by decide) ?_
          refine lv_isub hx hb d_M_resume_37 ?_
          refine fr_calli (va_runS (As := [.int tok, .int 0, .int ((nI tk) - 1)]) (rest := []) ⟨hx, hb, hml, hown, hts⟩ (c_M_in l hE tok 0 (nI tk - 1)) (va_cwS 3 hts (hw_goodS kw_585 kw_586 kw_26 kw_587) rfl rfl rfl (by decide +kernel) ⟨Nat.le_of_ble_eq_true rfl, Nat.le_of_ble_eq_true rfl⟩) ⟨fr_blind, fr_pre hE hK⟩ rfl rfl hl.1 rfl (lv_room (Nat.le_of_ble_eq_true rfl)) d_M_resume_38 ⟨Nat.le_of_ble_eq_true rfl, Nat.le_of_ble_eq_true rfl⟩) hS (fun r_5 u_5 H locs w_5 hE hS => ?_)
          rcases w_5 with ⟨rfl, pw_5⟩ | ⟨rfl, pw_5⟩
          · skip
            replace pw_5 := (in0 (m := tk) (nI_m1 (by omega)) (by omega)).mp pw_5
            obtain ⟨j_2, hj_2, rfl⟩ := pw_5
            obtain ⟨q_2, l_2, hT2⟩ := htok j_2 hj_2
            obtain ⟨hq_2, hl_2, e_2, e_3, hle, hle2⟩ := id hT2
            refine lv_if_ne (tgt := 47) hx hb d_M_resume_41 (by decide) (fun c_6 => ?_) (fun c_6 => ?_)
            · skip
              refine lv_aload_n hx hb d_M_resume_47 rfl (lv_at hl 0 rfl) ?_
              refine fr_get (ci := 5) (Cn := hR_5) (T := hF_5) (N := 34) hx hb hT hi_5 hown hK hE (0, 40) rfl rfl rfl 28 (by decide) (hT _ kw_502) (fun _ h9 => h9) rfl d_M_resume_48 ?_
              refine lv_iload_n hx hb d_M_resume_51 rfl (lv_at hl 2 rfl) ?_
              refine fr_iald hx hb hK hE (0, 68) 0 rfl m28 rfl j_2 (rfl) (by omega) (by decide) d_M_resume_52 ?_
              refine lv_topi (fun y_7 ey_7 => ?_)
              obtain rfl : y_7 = nI q_2 := ey_7.trans (e_2)
              refine lv_istore (lv' := [(4, .int (nI q_2)), (0, .ref (b 40)), (1, .int (nI j_1)), (2, .int (nI j_2)), (3, .int t)]) hx hb d_M_resume_53 hl (by decide) rfl (fun ls hl => ?_)
              refine lv_aload_n hx hb d_M_resume_55 rfl (lv_at hl 1 rfl) ?_
              refine fr_get (ci := 5) (Cn := hR_5) (T := hF_5) (N := 34) hx hb hT hi_5 hown hK hE (0, 40) rfl rfl rfl 15 (by decide) (hT _ kw_489) (fun _ h9 => h9) rfl d_M_resume_56 ?_
              refine lv_aload_n hx hb d_M_resume_59 rfl (lv_at hl 1 rfl) ?_
              refine fr_get (ci := 5) (Cn := hR_5) (T := hF_5) (N := 34) hx hb hT hi_5 hown hK hE (0, 40) rfl rfl rfl 18 (by decide) (hT _ kw_492) (fun _ h9 => h9) rfl d_M_resume_60 ?_
              refine lv_iload hx hb d_M_resume_63 (lv_at hl 0 rfl) ?_
              refine fr_iald hx hb hK hE (0, 58) 0 rfl m18 rfl q_2 (rfl) (by omega) (by decide) d_M_resume_65 ?_
              refine lv_topi (fun y_8 ey_8 => ?_)
              obtain rfl : y_8 = nI l_2 := ey_8.trans (e_3)
              refine fr_iald hx hb hK hE (0, 55) 0 rfl m15 rfl l_2 (rfl) (by omega) (by decide) d_M_resume_66 ?_
              refine lv_iload_n hx hb d_M_resume_67 rfl (lv_at hl 2 rfl) ?_
              refine lv_icmp_ne (tgt := 86) hx hb d_M_resume_68 (by decide) (fun c_9 => ?_) (fun c_9 => ?_)
              · skip
                refine lv_bipush (v := (-15)) hx hb d_M_resume_86 (by decide) ?_
                refine W.widen (k := 0) (n := 0) (Nat.le_of_ble_eq_true rfl) (Nat.le_of_ble_eq_true rfl) ?_
                exact W.iret (v := (-15)) hx hb hr (fun t9 ht9 hW9 => ⟨⟨(-15), _, rfl, Or.inl ⟨Or.inr (Or.inr (Or.inr ⟨j_1, j_2, q_2, l_2, hj_1, rfl, pw_3, hj_2, rfl, hT2, Or.inl c_9, rfl⟩)), rfl⟩, ⟨by rw [ht9]; exact hE, va_K.moved hW9.alike hK⟩⟩, hS.F ht9⟩) hS.2.2 d_M_resume_88
              · skip
                refine lv_iload_n hx hb d_M_resume_71 rfl (lv_at hl 4 rfl) ?_
                refine lv_aload_n hx hb d_M_resume_72 rfl (lv_at hl 1 rfl) ?_
                refine fr_get (ci := 5) (Cn := hR_5) (T := hF_5) (N := 34) hx hb hT hi_5 hown hK hE (0, 40) rfl rfl rfl 29 (by decide) (hT _ kw_503) (fun _ h9 => h9) rfl d_M_resume_73 ?_
                refine lv_iload_n hx hb d_M_resume_76 rfl (lv_at hl 3 rfl) ?_
                refine fr_iald hx hb hK hE (0, 69) 0 rfl m29 rfl j_2 (rfl) (by omega) (by decide) d_M_resume_77 ?_
                refine lv_isub hx hb d_M_resume_78 ?_
                refine lv_aload_n hx hb d_M_resume_79 rfl (lv_at hl 1 rfl) ?_
                refine fr_get (ci := 5) (Cn := hR_5) (T := hF_5) (N := 34) hx hb hT hi_5 hown hK hE (0, 40) rfl rfl rfl 3 (by decide) (hT _ kw_477) (fun _ h9 => h9) rfl d_M_resume_80 ?_
                refine lv_icmp_le (tgt := 89) hx hb d_M_resume_83 (by decide) (fun c_10 => ?_) (fun c_10 => ?_)
                · skip
                  refine lv_aload_n hx hb d_M_resume_89 rfl (lv_at hl 1 rfl) ?_
                  refine fr_get (ci := 5) (Cn := hR_5) (T := hF_5) (N := 34) hx hb hT hi_5 hown hK hE (0, 40) rfl rfl rfl 30 (by decide) (hT _ kw_504) (fun _ h9 => h9) rfl d_M_resume_90 ?_
                  refine lv_iload_n hx hb d_M_resume_93 rfl (lv_at hl 3 rfl) ?_
                  refine fr_iald hx hb hK hE (0, 70) 0 rfl m30 rfl j_2 (rfl) (by omega) (by decide) d_M_resume_94 ?_
                  refine lv_if_ge (tgt := 128) hx hb d_M_resume_95 (by decide) (fun c_11 => ?_) (fun c_11 => ?_)
                  · skip
                    obtain ⟨p_2, hp_2, e_4⟩ := hle (Int32.not_lt.mpr c_11)
                    refine lv_aload_n hx hb d_M_resume_128 rfl (lv_at hl 1 rfl) ?_
                    refine lv_iload_n hx hb d_M_resume_129 rfl (lv_at hl 2 rfl) ?_
                    refine lv_aload_n hx hb d_M_resume_130 rfl (lv_at hl 1 rfl) ?_
                    refine fr_get (ci := 5) (Cn := hR_5) (T := hF_5) (N := 34) hx hb hT hi_5 hown hK hE (0, 40) rfl rfl rfl 30 (by decide) (hT _ kw_504) (fun _ h9 => h9) rfl d_M_resume_131 ?_
                    refine lv_iload_n hx hb d_M_resume_134 rfl (lv_at hl 3 rfl) ?_
                    refine fr_iald hx hb hK hE (0, 70) 0 rfl m30 rfl j_2 (rfl) (by omega) (by decide) d_M_resume_135 ?_
                    refine lv_topi (fun y_12 ey_12 => ?_)
                    obtain rfl : y_12 = nI p_2 := ey_12.trans (e_4)
                    refine fr_calli (va_runV (As := [.int (nI j_1), .int (nI p_2)]) (rest := []) ⟨hx, hb, hml, hown, hts⟩ (c_M_answer l hE (pg := pg) (gr := gr) (lf := lf) (an := an) (n := n) (lc := lc) (ps := ps) (rw := rw) (tk := tk) (po := po) rfl m20 m31 m32 j_1 p_2 hj_1 hp_2) (cwV 2 hts (hw_goodV kw_629 kw_631 kw_19 kw_26 kw_632) rfl rfl rfl (by decide +kernel) ⟨Nat.le_of_ble_eq_true rfl, Nat.le_of_ble_eq_true rfl⟩) ⟨fr_blind, fr_recv hK hE (0, 40) rfl rfl (ci := 5) rfl, fr_pre hE hK⟩ rfl rfl hl.1 rfl (lv_room (Nat.le_of_ble_eq_true rfl)) d_M_resume_136 ⟨Nat.le_of_ble_eq_true rfl, Nat.le_of_ble_eq_true rfl⟩) hS (fun r_13 u_13 H locs w_13 hE hS => ?_)
                    obtain rfl := w_13
                    refine W.widen (k := 0) (n := 0) (Nat.le_of_ble_eq_true rfl) (Nat.le_of_ble_eq_true rfl) ?_
                    exact W.iret (v := pr p_2) hx hb hr (fun t9 ht9 hW9 => ⟨⟨pr p_2, _, rfl, Or.inr ⟨j_1, j_2, q_2, l_2, hj_1, rfl, pw_3, hj_2, rfl, hT2, c_9, c_10, Or.inl ⟨p_2, hp_2, e_4, rfl, rfl⟩⟩, ⟨by rw [ht9]; exact hE, va_K.moved hW9.alike hK⟩⟩, hS.F ht9⟩) hS.2.2 d_M_resume_139
                  · skip
                    have hneg : le j_2 < 0 := Int32.not_le.mp c_11
                    obtain ⟨f_2, m_2, g_2, e_5, e_6, hm_2, hf_2, hr_2, hg_2⟩ := hle2 hneg
                    refine lv_aload_n hx hb d_M_resume_98 rfl (lv_at hl 1 rfl) ?_
                    refine fr_get (ci := 5) (Cn := hR_5) (T := hF_5) (N := 34) hx hb hT hi_5 hown hK hE (0, 40) rfl rfl rfl 30 (by decide) (hT _ kw_504) (fun _ h9 => h9) rfl d_M_resume_99 ?_
                    refine lv_iload_n hx hb d_M_resume_102 rfl (lv_at hl 3 rfl) ?_
                    refine lv_aload_n hx hb d_M_resume_103 rfl (lv_at hl 1 rfl) ?_
                    refine lv_aload_n hx hb d_M_resume_104 rfl (lv_at hl 1 rfl) ?_
                    refine fr_get (ci := 5) (Cn := hR_5) (T := hF_5) (N := 34) hx hb hT hi_5 hown hK hE (0, 40) rfl rfl rfl 18 (by decide) (hT _ kw_492) (fun _ h9 => h9) rfl d_M_resume_105 ?_
                    refine lv_iload hx hb d_M_resume_108 (lv_at hl 0 rfl) ?_
                    refine fr_iald hx hb hK hE (0, 58) 0 rfl m18 rfl q_2 (rfl) (by omega) (by decide) d_M_resume_110 ?_
                    refine lv_topi (fun y_14 ey_14 => ?_)
                    obtain rfl : y_14 = nI l_2 := ey_14.trans (e_3)
                    refine lv_aload_n hx hb d_M_resume_111 rfl (lv_at hl 1 rfl) ?_
                    refine fr_get (ci := 5) (Cn := hR_5) (T := hF_5) (N := 34) hx hb hT hi_5 hown hK hE (0, 40) rfl rfl rfl 19 (by decide) (hT _ kw_493) (fun _ h9 => h9) rfl d_M_resume_112 ?_
                    refine lv_iload hx hb d_M_resume_115 (lv_at hl 0 rfl) ?_
                    refine fr_iald hx hb hK hE (0, 59) 0 rfl m19 rfl q_2 (rfl) (by omega) (by decide) d_M_resume_117 ?_
                    refine lv_topi (fun y_15 ey_15 => ?_)
                    obtain rfl : y_15 = nI f_2 := ey_15.trans (e_5)
                    refine lv_aload_n hx hb d_M_resume_118 rfl (lv_at hl 1 rfl) ?_
                    refine fr_get (ci := 5) (Cn := hR_5) (T := hF_5) (N := 34) hx hb hT hi_5 hown hK hE (0, 40) rfl rfl rfl 1 (by decide) (hT _ kw_475) (fun _ h9 => h9) rfl d_M_resume_119 ?_
                    refine lv_iadd hx hb d_M_resume_122 ?_
                    refine lv_topi (fun y_16 ey_16 => ?_)
                    obtain rfl : y_16 = nI (f_2 + pg) := ey_16.trans (nI_add _ _)
                    refine lv_iload_n hx hb d_M_resume_123 rfl (lv_at hl 4 rfl) ?_
                    refine fr_calli (va_runV (As := [.int (nI l_2), .int (nI (f_2 + pg)), .int t]) (rest := [.int (nI j_2), .ref (b 70)]) ⟨hx, hb, hml, hown, hts⟩ (c_M_makePage l hE (th := 0) (pg := pg) (gr := gr) (lf := lf) (an := an) (n := n) (lc := lc) (ps := ps) (rw := rw) (tk := tk) (po := po) rfl m7 m8 m9 m12 m13 m16 m18 m19 m20 m21 m22 m24 m25 m26 m28 m29 m30 l_2 (f_2 + pg) m_2 ((if f_2 + pg + pg < m_2 then f_2 + pg + pg else m_2) - (f_2 + pg)) t g_2 hl_2 hps htk hpg e_6 hm_2 hf_2 (by split <;> omega) (by split <;> omega) hdl hg_2) (cwV 3 hts (hw_goodV kw_625 kw_627 kw_18 kw_26 kw_628) rfl rfl rfl (by decide +kernel) ⟨Nat.le_of_ble_eq_true rfl, Nat.le_of_ble_eq_true rfl⟩) ⟨fr_blind, fr_recv hK hE (0, 40) rfl rfl (ci := 5) rfl, fr_pre hE hK⟩ rfl rfl hl.1 rfl (lv_room (Nat.le_of_ble_eq_true rfl)) d_M_resume_124 ⟨Nat.le_of_ble_eq_true rfl, Nat.le_of_ble_eq_true rfl⟩) hS (fun r_17 u_17 H locs w_17 hE hS => ?_)
                    obtain ⟨rfl, hPg⟩ := w_17
                    have z71 : u_17.1 (0, 71) = some (.inl (cI, 10, .inl aw)) := hPg.2.2.2.2.2.2.2.2.2.1.at (by decide) m31
                    have z72 : u_17.1 (0, 72) = some (.inl (cI, 10, .inl cs)) := hPg.2.2.2.2.2.2.2.2.2.1.at (by decide) m32
                    rcases id hPg.2.2.2.2.2.2.2.2.2.2 with ⟨htm, z40, -, -, -, z70⟩ | ⟨htm, z40, -, -, -, z70⟩
                    · skip
                      refine fr_iast hx hb hK hE hS (0, 70) 0 rfl z70 rfl j_2 (rfl) (by omega) (by decide) d_M_resume_127 (fun H locs hE hS => ?_)
                      refine lv_aload_n hx hb d_M_resume_128 rfl (lv_at hl 1 rfl) ?_
                      refine lv_iload_n hx hb d_M_resume_129 rfl (lv_at hl 2 rfl) ?_
                      refine lv_aload_n hx hb d_M_resume_130 rfl (lv_at hl 1 rfl) ?_
                      refine fr_get (ci := 5) (Cn := hR_5) (T := hF_5) (N := 34) hx hb hT hi_5 hown hK hE (0, 40) rfl z40 rfl 30 (by decide) (hT _ kw_504) (fun _ h9 => h9) rfl d_M_resume_131 ?_
                      refine lv_iload_n hx hb d_M_resume_134 rfl (lv_at hl 3 rfl) ?_
                      refine fr_iald hx hb hK hE (0, 70) 0 rfl rfl rfl j_2 (rfl) (by omega) (by decide) d_M_resume_135 ?_
                      refine lv_topi (fun y_18 ey_18 => ?_)
                      obtain rfl : y_18 = nI ps := ey_18.trans (pk_us)
                      refine fr_calli (va_runV (As := [.int (nI j_1), .int (nI ps)]) (rest := []) ⟨hx, hb, hml, hown, hts⟩ (c_M_answer l hE (th := 0) (pg := pg) (gr := gr) (lf := lf) (an := an) (n := n) (lc := lc) (ps := ps + 1) (rw := rw + (kp (keepB ac (si l_2)) g_2 (f_2 + pg) ((if f_2 + pg + pg < m_2 then f_2 + pg + pg else m_2) - (f_2 + pg))).length) (tk := tk + 1) (po := po + (((if f_2 + pg + pg < m_2 then f_2 + pg + pg else m_2) - (f_2 + pg)) - (kp (keepB ac (si l_2)) g_2 (f_2 + pg) ((if f_2 + pg + pg < m_2 then f_2 + pg + pg else m_2) - (f_2 + pg))).length)) z40 hPg.2.2.1 z71 z72 j_1 ps hj_1 hps) (cwV 2 hts (hw_goodV kw_629 kw_631 kw_19 kw_26 kw_632) rfl rfl rfl (by decide +kernel) ⟨Nat.le_of_ble_eq_true rfl, Nat.le_of_ble_eq_true rfl⟩) ⟨fr_blind, fr_recv hK hE (0, 40) rfl z40 (ci := 5) rfl, fr_pre hE hK⟩ rfl rfl hl.1 rfl (lv_room (Nat.le_of_ble_eq_true rfl)) d_M_resume_136 ⟨Nat.le_of_ble_eq_true rfl, Nat.le_of_ble_eq_true rfl⟩) hS (fun r_19 u_19 H locs w_19 hE hS => ?_)
                      obtain rfl : r_19 = nI (kp (keepB ac (si l_2)) g_2 (f_2 + pg) ((if f_2 + pg + pg < m_2 then f_2 + pg + pg else m_2) - (f_2 + pg))).length := w_19.trans pk_us
                      refine W.widen (k := 0) (n := 0) (Nat.le_of_ble_eq_true rfl) (Nat.le_of_ble_eq_true rfl) ?_
                      exact W.iret (v := nI (kp (keepB ac (si l_2)) g_2 (f_2 + pg) ((if f_2 + pg + pg < m_2 then f_2 + pg + pg else m_2) - (f_2 + pg))).length) hx hb hr (fun t9 ht9 hW9 => ⟨⟨nI (kp (keepB ac (si l_2)) g_2 (f_2 + pg) ((if f_2 + pg + pg < m_2 then f_2 + pg + pg else m_2) - (f_2 + pg))).length, _, rfl, Or.inr ⟨j_1, j_2, q_2, l_2, hj_1, rfl, pw_3, hj_2, rfl, hT2, c_9, c_10, Or.inr ⟨hneg, f_2, m_2, g_2, u_17, upd (upd le tk (-1)) j_2 (nI ps), e_5, e_6, hm_2, hf_2, hg_2, hPg, Or.inl ⟨htm, rfl⟩, rfl, rfl⟩⟩, ⟨by rw [ht9]; exact hE, va_K.moved hW9.alike hK⟩⟩, hS.F ht9⟩) hS.2.2 d_M_resume_139
                    · skip
                      refine fr_iast hx hb hK hE hS (0, 70) 0 rfl z70 rfl j_2 (rfl) (by omega) (by decide) d_M_resume_127 (fun H locs hE hS => ?_)
                      refine lv_aload_n hx hb d_M_resume_128 rfl (lv_at hl 1 rfl) ?_
                      refine lv_iload_n hx hb d_M_resume_129 rfl (lv_at hl 2 rfl) ?_
                      refine lv_aload_n hx hb d_M_resume_130 rfl (lv_at hl 1 rfl) ?_
                      refine fr_get (ci := 5) (Cn := hR_5) (T := hF_5) (N := 34) hx hb hT hi_5 hown hK hE (0, 40) rfl z40 rfl 30 (by decide) (hT _ kw_504) (fun _ h9 => h9) rfl d_M_resume_131 ?_
                      refine lv_iload_n hx hb d_M_resume_134 rfl (lv_at hl 3 rfl) ?_
                      refine fr_iald hx hb hK hE (0, 70) 0 rfl rfl rfl j_2 (rfl) (by omega) (by decide) d_M_resume_135 ?_
                      refine lv_topi (fun y_20 ey_20 => ?_)
                      obtain rfl : y_20 = nI ps := ey_20.trans (pk_us)
                      refine fr_calli (va_runV (As := [.int (nI j_1), .int (nI ps)]) (rest := []) ⟨hx, hb, hml, hown, hts⟩ (c_M_answer l hE (th := 0) (pg := pg) (gr := gr) (lf := lf) (an := an) (n := n) (lc := lc) (ps := ps + 1) (rw := rw + (kp (keepB ac (si l_2)) g_2 (f_2 + pg) ((if f_2 + pg + pg < m_2 then f_2 + pg + pg else m_2) - (f_2 + pg))).length) (tk := tk) (po := po + (((if f_2 + pg + pg < m_2 then f_2 + pg + pg else m_2) - (f_2 + pg)) - (kp (keepB ac (si l_2)) g_2 (f_2 + pg) ((if f_2 + pg + pg < m_2 then f_2 + pg + pg else m_2) - (f_2 + pg))).length)) z40 hPg.2.2.1 z71 z72 j_1 ps hj_1 hps) (cwV 2 hts (hw_goodV kw_629 kw_631 kw_19 kw_26 kw_632) rfl rfl rfl (by decide +kernel) ⟨Nat.le_of_ble_eq_true rfl, Nat.le_of_ble_eq_true rfl⟩) ⟨fr_blind, fr_recv hK hE (0, 40) rfl z40 (ci := 5) rfl, fr_pre hE hK⟩ rfl rfl hl.1 rfl (lv_room (Nat.le_of_ble_eq_true rfl)) d_M_resume_136 ⟨Nat.le_of_ble_eq_true rfl, Nat.le_of_ble_eq_true rfl⟩) hS (fun r_21 u_21 H locs w_21 hE hS => ?_)
                      obtain rfl : r_21 = nI (kp (keepB ac (si l_2)) g_2 (f_2 + pg) ((if f_2 + pg + pg < m_2 then f_2 + pg + pg else m_2) - (f_2 + pg))).length := w_21.trans pk_us
                      refine W.widen (k := 0) (n := 0) (Nat.le_of_ble_eq_true rfl) (Nat.le_of_ble_eq_true rfl) ?_
                      exact W.iret (v := nI (kp (keepB ac (si l_2)) g_2 (f_2 + pg) ((if f_2 + pg + pg < m_2 then f_2 + pg + pg else m_2) - (f_2 + pg))).length) hx hb hr (fun t9 ht9 hW9 => ⟨⟨nI (kp (keepB ac (si l_2)) g_2 (f_2 + pg) ((if f_2 + pg + pg < m_2 then f_2 + pg + pg else m_2) - (f_2 + pg))).length, _, rfl, Or.inr ⟨j_1, j_2, q_2, l_2, hj_1, rfl, pw_3, hj_2, rfl, hT2, c_9, c_10, Or.inr ⟨hneg, f_2, m_2, g_2, u_17, upd (le) j_2 (nI ps), e_5, e_6, hm_2, hf_2, hg_2, hPg, Or.inr ⟨htm, rfl⟩, rfl, rfl⟩⟩, ⟨by rw [ht9]; exact hE, va_K.moved hW9.alike hK⟩⟩, hS.F ht9⟩) hS.2.2 d_M_resume_139
                · skip
                  refine lv_bipush (v := (-15)) hx hb d_M_resume_86 (by decide) ?_
                  refine W.widen (k := 0) (n := 0) (Nat.le_of_ble_eq_true rfl) (Nat.le_of_ble_eq_true rfl) ?_
                  exact W.iret (v := (-15)) hx hb hr (fun t9 ht9 hW9 => ⟨⟨(-15), _, rfl, Or.inl ⟨Or.inr (Or.inr (Or.inr ⟨j_1, j_2, q_2, l_2, hj_1, rfl, pw_3, hj_2, rfl, hT2, Or.inr c_10, rfl⟩)), rfl⟩, ⟨by rw [ht9]; exact hE, va_K.moved hW9.alike hK⟩⟩, hS.F ht9⟩) hS.2.2 d_M_resume_88
            · skip
              exact absurd c_6 (by decide)
          · skip
            replace pw_5 := fun q => pw_5 ((in0 (m := tk) (nI_m1 (by omega)) (by omega)).mpr q)
            refine lv_if_ne (tgt := 47) hx hb d_M_resume_41 (by decide) (fun c_22 => ?_) (fun c_22 => ?_)
            · skip
              exact absurd c_22 (by decide)
            · skip
              refine lv_bipush (v := (-15)) hx hb d_M_resume_44 (by decide) ?_
              refine W.widen (k := 0) (n := 0) (Nat.le_of_ble_eq_true rfl) (Nat.le_of_ble_eq_true rfl) ?_
              exact W.iret (v := (-15)) hx hb hr (fun t9 ht9 hW9 => ⟨⟨(-15), _, rfl, Or.inl ⟨Or.inr (Or.inr (Or.inl ⟨⟨j_1, hj_1, rfl⟩, pw_3, pw_5, rfl⟩)), rfl⟩, ⟨by rw [ht9]; exact hE, va_K.moved hW9.alike hK⟩⟩, hS.F ht9⟩) hS.2.2 d_M_resume_46
        · skip
          exact absurd c_4 (by decide)
      · skip
        replace pw_3 := fun q => pw_3 ((in0 (m := 1000000001) (by decide) (by decide)).mpr q)
        refine lv_if_ne (tgt := 30) hx hb d_M_resume_24 (by decide) (fun c_23 => ?_) (fun c_23 => ?_)
        · skip
          exact absurd c_23 (by decide)
        · skip
          refine lv_bipush (v := (-2)) hx hb d_M_resume_27 (by decide) ?_
          refine W.widen (k := 0) (n := 0) (Nat.le_of_ble_eq_true rfl) (Nat.le_of_ble_eq_true rfl) ?_
          exact W.iret (v := (-2)) hx hb hr (fun t9 ht9 hW9 => ⟨⟨(-2), _, rfl, Or.inl ⟨Or.inr (Or.inl ⟨⟨j_1, hj_1, rfl⟩, pw_3, rfl⟩), rfl⟩, ⟨by rw [ht9]; exact hE, va_K.moved hW9.alike hK⟩⟩, hS.F ht9⟩) hS.2.2 d_M_resume_29
    · skip
      exact absurd c_2 (by decide)
  · skip
    replace pw_1 := fun q => pw_1 ((in0 (m := 10) (by decide) (by decide)).mpr q)
    refine lv_if_ne (tgt := 17) hx hb d_M_resume_12 (by decide) (fun c_24 => ?_) (fun c_24 => ?_)
    · skip
      exact absurd c_24 (by decide)
    · skip
      refine lv_iconst (v := (-1)) hx hb d_M_resume_15 (by decide) ?_
      refine W.widen (k := 0) (n := 0) (Nat.le_of_ble_eq_true rfl) (Nat.le_of_ble_eq_true rfl) ?_
      exact W.iret (v := (-1)) hx hb hr (fun t9 ht9 hW9 => ⟨⟨(-1), _, rfl, Or.inl ⟨Or.inl ⟨pw_1, rfl⟩, rfl⟩, ⟨by rw [ht9]; exact hE, va_K.moved hW9.alike hK⟩⟩, hS.F ht9⟩) hS.2.2 d_M_resume_16
