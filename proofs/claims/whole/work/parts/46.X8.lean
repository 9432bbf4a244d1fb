theorem lsAt.mono {C C' : fr_C} {cO : ClassId} {e0 dt tk n0 : Nat} {f : Nat → Option Nat} (h : lsAt C cO e0 dt tk n0 f) (hm : ∀ a e, C (1, a) = some e → C' (1, a) = some e) : lsAt C' cO e0 dt tk n0 f := by
  rcases h with y | ⟨y1, y2, y3, y4, y5, y6⟩
  · exact Or.inl y
  · exact Or.inr ⟨hm _ _ y1, y2, y3, y4, fun i y hi hy => by obtain ⟨fs, hfs⟩ := y5 i y hi hy; exact ⟨fs, hm _ _ hfs⟩, y6⟩
/-- the class's world when a list is made, ahead of its first page -/
def xLs (z : Nat) (C C1 : fr_C) (b b1 : Nat → Nat) (cI : ClassId) (pg gr lf n an lc po : Nat) (g : Nat → Nat) (k lg nm : Nat) (h f : Int32) : Prop :=
  (∃ fnm : Nat → Int32, C1 (1, nm) = some (.inl (cI, k, .inl fnm)) ∧ ∀ j, j < k → fnm j = nI (g j)) ∧ C1 (1, lg) = some (.inr (1, [.int h, .int f, .int (nI an), .ref nm])) ∧ C1 (0, 0) = some (.inr (0, fX b pg gr lf n an (lc + 1) po)) ∧ (∃ od, C1 (0, 6) = some (.inl (cI, 150, .inl od))) ∧ (∀ a e, C (1, a) = some e → C1 (1, a) = some e) ∧ (∀ i, i ≠ 0 → i ≠ 6 → i < 20 ∨ 28 ≤ i → C1 (0, i) = C (0, i)) ∧ (∀ i, i < 20 ∨ 28 ≤ i → b1 i = b i) ∧ C (1, lg) = none ∧ C (1, nm) = none ∧ z ≤ lg ∧ z ≤ nm
set_option maxHeartbeats 4000000 in
set_option maxRecDepth 100000 in
theorem c_X_list (l : Launch) {D : va_G} {z : Nat} {b : Nat → Nat} {C : fr_C} {H9 : Heap} (h9 : fr_W D hCl z b C H9) {cI cZ cJ cP cO : ClassId} {e0 mi : Nat} {pg gr lf n an lc po : Nat} {hd : Nat → Int32} {st : Nat → Int32} {dy : Nat → Int32} {dl : Nat → Int32} {ac : Nat → Int32} {od : Nat → Int32} {lp : Nat → Option Nat} {cs : Nat → Int32} (h0 : C (0, 0) = some (.inr (0, fX b pg gr lf n an lc po))) (h1 : C (0, 1) = some (.inl (cZ, 6, .inl hd))) (h2 : C (0, 2) = some (.inl (cI, 150, .inl st))) (h3 : C (0, 3) = some (.inl (cI, 150, .inl dy))) (h4 : C (0, 4) = some (.inl (cZ, 150, .inl dl))) (h5 : C (0, 5) = some (.inl (cI, 150, .inl ac))) (h6 : C (0, 6) = some (.inl (cI, 150, .inl od))) (h8 : C (0, 8) = some (.inl (cP, 10, .inr (.inr (.inr (.inr lp)))))) (h9a : C (0, 9) = some (.inl (cI, 10, .inl cs))) {mc : Int32} {dt tk n0 : Nat} {f9 : Nat → Option Nat} (h7 : C (0, 7) = some (.inr (4, [.ref dt, .int (nI tk), .int mc]))) (hls : lsAt C cO e0 dt tk n0 f9) (htk : tk < 1000) (hpg : pg ≤ 50) (hn : n ≤ 150) (hg : 1 ≤ gr ∧ gr ≤ 100) (hlc : lc ≤ 30) (hdl : ∀ j, vp_nar .boolean (dl j) = dl j) (h f fr to of t : Int32) : Met l y_X_list w_X_list ({ frames := 8, cells := 8, slots := 2564, locals := 198 }) (va_Pc [.ref (b 0), .int h, .int f, .int fr, .int to, .int of, .int t] (fr_GX e0 mi D hCl (hTy cI cZ cJ cP cO) z b C)) (va_Qi (fun (r : Int32) (u : (Nat → Nat) × fr_C) => (lsErr gr lc (gaF (selB fr to of dy st) dy n).2 hd h f fr to of t r ∧ u.1 = b ∧ ∃ od, u.2 = fr_up C (0, 6) (.inl (cI, 150, .inl od))) ∨ (lsOk gr lc (gaF (selB fr to of dy st) dy n).2 hd h f fr to of t ∧ ∃ (hh lg nm pa : Nat) (C1 C2 : fr_C) (b1 : Nat → Nat), hh < 10 ∧ h = nI hh ∧ xLs z C C1 b b1 cI pg gr lf n an lc po (gaF (selB fr to of dy st) dy n).1 (gaF (selB fr to of dy st) dy n).2 lg nm h f ∧ xPage C1 C2 b1 u.1 cI cZ cO pg gr lf n an (lc + 1) po f lg 0 (if pg < (gaF (selB fr to of dy st) dy n).2 then pg else (gaF (selB fr to of dy st) dy n).2) t (kp (keepB ac (nI an)) (gaF (selB fr to of dy st) dy n).1 0 (if pg < (gaF (selB fr to of dy st) dy n).2 then pg else (gaF (selB fr to of dy st) dy n).2)) (0 + (if pg < (gaF (selB fr to of dy st) dy n).2 then pg else (gaF (selB fr to of dy st) dy n).2) < (gaF (selB fr to of dy st) dy n).2) dy dl mc dt tk n0 f9 pa ∧ (∀ i, i < 20 ∨ 28 ≤ i → u.1 i = b i) ∧ r = nI (kp (keepB ac (nI an)) (gaF (selB fr to of dy st) dy n).1 0 (if pg < (gaF (selB fr to of dy st) dy n).2 then pg else (gaF (selB fr to of dy st) dy n).2)).length ∧ u.2 = xAns C2 cI cP lp cs hh pa (nI (kp (keepB ac (nI an)) (gaF (selB fr to of dy st) dy n).1 0 (if pg < (gaF (selB fr to of dy st) dy n).2 then pg else (gaF (selB fr to of dy st) dy n).2)).length))) (fun u t => fr_G D hCl (hTy cI cZ cJ cP cO) z ((fun u => u.1) u) ((fun u => u.2) u) t) (fr_A z)) 8 2564 (fr_A z) := by
  refine Met.ofW (cc := b_X_list) (maxL := 9) (ret := (some .int)) (by decide) rfl ?_
  intro p e s m args below meth c s₁ B hml hv
  obtain ⟨rfl, ⟨hE, hK⟩, hX⟩ := hv
  have hx := B.exec
  have hb := B.bytes
  have hr := B.returns
  have hts := atoms_spec (ws := w_X_list) B.pre
  have hT : ∀ w ∈ hw_tbl, w.before _ s = true := fun w h => hts w (List.mem_cons_of_mem _ h)
  have hown : s.vm.findClass "HarvestSteps" = some m.cls := findClass_of_methodNamed B.named
  have hlocks := B.notSynchronized
  have hS : va_S (fr_A z) s.heap s.heap [] := va_S.rf
  have hl := lv_entry ([.ref (b 0), .int h, .int f, .int fr, .int to, .int of, .int t]) (n := 9) (Nat.le_of_ble_eq_true rfl)
  rw [lg_entry_eq]
  generalize (lg_sl ([.ref (b 0), .int h, .int f, .int fr, .int to, .int of, .int t]) ++ List.replicate (9 - (lg_sl ([.ref (b 0), .int h, .int f, .int fr, .int to, .int of, .int t])).length) Slot.unset).toArray = ls at hl ⊢
  have hl : lv_has ls 9 [(0, .ref (b 0)), (1, .int h), (2, .int f), (3, .int fr), (4, .int to), (5, .int of), (6, .int t)] := hl
  refine lv_iload_n hx hb d_X_list_0 rfl (lv_at hl 1 rfl) ?_
  refine fr_calli (va_runS (As := [.int h]) (rest := []) ⟨hx, hb, hml, hown, hts⟩ (c_X_isHarvester l hE h) (va_cwS 1 hts (hw_goodS kw_174 kw_175 kw_21 kw_176) rfl rfl rfl (by decide +kernel) ⟨Nat.le_of_ble_eq_true rfl, Nat.le_of_ble_eq_true rfl⟩) ⟨fr_blind, fr_pre hE hK⟩ rfl rfl hl.1 rfl (lv_room (Nat.le_of_ble_eq_true rfl)) d_X_list_1 ⟨Nat.le_of_ble_eq_true rfl, Nat.le_of_ble_eq_true rfl⟩) hS (fun r_1 u_1 H locs w_1 hE hS => ?_)
  rcases w_1 with ⟨rfl, pw_1⟩ | ⟨rfl, pw_1⟩
  · skip
    obtain ⟨j_1, hj_1, rfl⟩ := pw_1
    refine lv_if_ne (tgt := 9) hx hb d_X_list_4 (by decide) (fun c_2 => ?_) (fun c_2 => ?_)
    · skip
      refine lv_iload hx hb d_X_list_9 (lv_at hl 6 rfl) ?_
      refine fr_calli (va_runS (As := [.int t]) (rest := []) ⟨hx, hb, hml, hown, hts⟩ (c_X_isTime l hE t) (va_cwS 1 hts (hw_goodS kw_177 kw_178 kw_21 kw_179) rfl rfl rfl (by decide +kernel) ⟨Nat.le_of_ble_eq_true rfl, Nat.le_of_ble_eq_true rfl⟩) ⟨fr_blind, fr_pre hE hK⟩ rfl rfl hl.1 rfl (lv_room (Nat.le_of_ble_eq_true rfl)) d_X_list_11 ⟨Nat.le_of_ble_eq_true rfl, Nat.le_of_ble_eq_true rfl⟩) hS (fun r_3 u_3 H locs w_3 hE hS => ?_)
      rcases w_3 with ⟨rfl, pw_3⟩ | ⟨rfl, pw_3⟩
      · skip
        refine lv_if_ne (tgt := 20) hx hb d_X_list_14 (by decide) (fun c_4 => ?_) (fun c_4 => ?_)
        · skip
          refine lv_aload_n hx hb d_X_list_20 rfl (lv_at hl 0 rfl) ?_
          refine lv_iload_n hx hb d_X_list_21 rfl (lv_at hl 3 rfl) ?_
          refine fr_calli (va_runV (As := [.int fr]) (rest := []) ⟨hx, hb, hml, hown, hts⟩ (c_X_canBeDay l hE (pg := pg) (gr := gr) (lf := lf) (n := n) (an := an) (lc := lc) (po := po) h0 hg fr) (cwV 1 hts (hw_goodV kw_143 kw_145 kw_0 kw_21 kw_146) rfl rfl rfl (by decide +kernel) ⟨Nat.le_of_ble_eq_true rfl, Nat.le_of_ble_eq_true rfl⟩) ⟨fr_blind, fr_recv hK hE (0, 0) rfl h0 (ci := 0) rfl, fr_pre hE hK⟩ rfl rfl hl.1 rfl (lv_room (Nat.le_of_ble_eq_true rfl)) d_X_list_22 ⟨Nat.le_of_ble_eq_true rfl, Nat.le_of_ble_eq_true rfl⟩) hS (fun r_5 u_5 H locs w_5 hE hS => ?_)
          rcases w_5 with ⟨rfl, pw_5⟩ | ⟨rfl, pw_5⟩
          · skip
            refine lv_if_eq (tgt := 43) hx hb d_X_list_25 (by decide) (fun c_6 => ?_) (fun c_6 => ?_)
            · skip
              exact absurd c_6 (by decide)
            · skip
              refine lv_aload_n hx hb d_X_list_28 rfl (lv_at hl 0 rfl) ?_
              refine lv_iload hx hb d_X_list_29 (lv_at hl 4 rfl) ?_
              refine fr_calli (va_runV (As := [.int to]) (rest := []) ⟨hx, hb, hml, hown, hts⟩ (c_X_canBeDay l hE (pg := pg) (gr := gr) (lf := lf) (n := n) (an := an) (lc := lc) (po := po) h0 hg to) (cwV 1 hts (hw_goodV kw_143 kw_145 kw_0 kw_21 kw_146) rfl rfl rfl (by decide +kernel) ⟨Nat.le_of_ble_eq_true rfl, Nat.le_of_ble_eq_true rfl⟩) ⟨fr_blind, fr_recv hK hE (0, 0) rfl h0 (ci := 0) rfl, fr_pre hE hK⟩ rfl rfl hl.1 rfl (lv_room (Nat.le_of_ble_eq_true rfl)) d_X_list_31 ⟨Nat.le_of_ble_eq_true rfl, Nat.le_of_ble_eq_true rfl⟩) hS (fun r_7 u_7 H locs w_7 hE hS => ?_)
              rcases w_7 with ⟨rfl, pw_7⟩ | ⟨rfl, pw_7⟩
              · skip
                refine lv_if_eq (tgt := 43) hx hb d_X_list_34 (by decide) (fun c_8 => ?_) (fun c_8 => ?_)
                · skip
                  exact absurd c_8 (by decide)
                · skip
                  refine lv_iload_n hx hb d_X_list_37 rfl (lv_at hl 3 rfl) ?_
                  refine lv_iload hx hb d_X_list_38 (lv_at hl 4 rfl) ?_
                  refine lv_icmp_le (tgt := 46) hx hb d_X_list_40 (by decide) (fun c_9 => ?_) (fun c_9 => ?_)
                  · skip
                    refine lv_aload_n hx hb d_X_list_46 rfl (lv_at hl 0 rfl) ?_
                    refine lv_iload_n hx hb d_X_list_47 rfl (lv_at hl 2 rfl) ?_
                    refine fr_calli (va_runV (As := [.int f]) (rest := []) ⟨hx, hb, hml, hown, hts⟩ (c_X_isHeld l hE (pg := pg) (gr := gr) (lf := lf) (n := n) (an := an) (lc := lc) (po := po) h0 h1 f) (cwV 1 hts (hw_goodV kw_181 kw_183 kw_3 kw_21 kw_184) rfl rfl rfl (by decide +kernel) ⟨Nat.le_of_ble_eq_true rfl, Nat.le_of_ble_eq_true rfl⟩) ⟨fr_blind, fr_recv hK hE (0, 0) rfl h0 (ci := 0) rfl, fr_pre hE hK⟩ rfl rfl hl.1 rfl (lv_room (Nat.le_of_ble_eq_true rfl)) d_X_list_48 ⟨Nat.le_of_ble_eq_true rfl, Nat.le_of_ble_eq_true rfl⟩) hS (fun r_10 u_10 H locs w_10 hE hS => ?_)
                    rcases w_10 with ⟨rfl, pw_10⟩ | ⟨rfl, pw_10⟩
                    · skip
                      refine lv_if_ne (tgt := 57) hx hb d_X_list_51 (by decide) (fun c_11 => ?_) (fun c_11 => ?_)
                      · skip
                        refine lv_iload hx hb d_X_list_57 (lv_at hl 5 rfl) ?_
                        refine lv_iconst (v := (-1)) hx hb d_X_list_59 (by decide) ?_
                        refine lv_icmp_eq (tgt := 74) hx hb d_X_list_60 (by decide) (fun c_12 => ?_) (fun c_12 => ?_)
                        · skip
                          have hof : okSet of := Or.inl c_12
                          have hk150 : (gaF (selB fr to of dy st) dy n).2 ≤ 150 := by have := gaF_le (selB fr to of dy st) dy n; omega
                          refine lv_aload_n hx hb d_X_list_74 rfl (lv_at hl 0 rfl) ?_
                          refine lv_iload_n hx hb d_X_list_75 rfl (lv_at hl 3 rfl) ?_
                          refine lv_iload hx hb d_X_list_76 (lv_at hl 4 rfl) ?_
                          refine lv_iload hx hb d_X_list_78 (lv_at hl 5 rfl) ?_
                          refine fr_calli (va_runV (As := [.int fr, .int to, .int of]) (rest := []) ⟨hx, hb, hml, hown, hts⟩ (c_X_sortSpan l hE (pg := pg) (gr := gr) (lf := lf) (n := n) (an := an) (lc := lc) (po := po) h0 h2 h3 h6 hn fr to of hof) (cwV 3 hts (hw_goodV kw_185 kw_187 kw_4 kw_21 kw_188) rfl rfl rfl (by decide +kernel) ⟨Nat.le_of_ble_eq_true rfl, Nat.le_of_ble_eq_true rfl⟩) ⟨fr_blind, fr_recv hK hE (0, 0) rfl h0 (ci := 0) rfl, fr_pre hE hK⟩ rfl rfl hl.1 rfl (lv_room (Nat.le_of_ble_eq_true rfl)) d_X_list_80 ⟨Nat.le_of_ble_eq_true rfl, Nat.le_of_ble_eq_true rfl⟩) hS (fun r_13 u_13 H locs w_13 hE hS => ?_)
                          obtain ⟨rfl, hsrt⟩ := w_13
                          refine lv_istore (lv' := [(7, .int (nI (gaF (selB fr to of dy st) dy n).2)), (0, .ref (b 0)), (1, .int (nI j_1)), (2, .int f), (3, .int fr), (4, .int to), (5, .int of), (6, .int t)]) hx hb d_X_list_83 hl (by decide) rfl (fun ls hl => ?_)
                          refine lv_iload hx hb d_X_list_85 (lv_at hl 0 rfl) ?_
                          refine lv_iconst (v := 1) hx hb d_X_list_87 (by decide) ?_
                          refine lv_icmp_ge (tgt := 94) hx hb d_X_list_88 (by decide) (fun c_14 => ?_) (fun c_14 => ?_)
                          · skip
                            have hpos : 0 < (gaF (selB fr to of dy st) dy n).2 := by rcases Nat.eq_zero_or_pos (gaF (selB fr to of dy st) dy n).2 with y | y; exact absurd c_14 (by rw [y]; decide); exact y
                            refine lv_aload_n hx hb d_X_list_94 rfl (lv_at hl 1 rfl) ?_
                            refine fr_get (ci := 0) (Cn := hR_0) (T := hF_0) (N := 16) hx hb hT hi_0 hown hK hE (0, 0) rfl h0 rfl 11 (by decide) (hT _ kw_98) (fun _ h9 => h9) rfl d_X_list_95 ?_
                            refine lv_bipush (v := 30) hx hb d_X_list_98 (by decide) ?_
                            refine lv_icmp_lt (tgt := 106) hx hb d_X_list_100 (by decide) (fun c_15 => ?_) (fun c_15 => ?_)
                            · skip
                              have hlt : lc < 30 := by rcases Nat.lt_or_ge lc 30 with y | y; exact y; exact absurd c_15 (nI_nlt y (by omega))
                              refine lv_aload_n hx hb d_X_list_106 rfl (lv_at hl 1 rfl) ?_
                              refine lv_dup hx hb d_X_list_107 rfl ?_
                              refine fr_get (ci := 0) (Cn := hR_0) (T := hF_0) (N := 16) hx hb hT hi_0 hown hK hE (0, 0) rfl h0 rfl 11 (by decide) (hT _ kw_98) (fun _ h9 => h9) rfl d_X_list_108 ?_
                              refine lv_iconst (v := 1) hx hb d_X_list_111 (by decide) ?_
                              refine lv_iadd hx hb d_X_list_112 ?_
                              refine lv_topi (fun y_16 ey_16 => ?_)
                              obtain rfl : y_16 = nI (lc + 1) := ey_16.trans (nI_1 lc)
                              refine fr_put (ci := 0) (v := .int (nI (lc + 1))) (ty := .int) (Cn := hR_0) (T := hF_0) (N := 16) hx hb hT hi_0 hy_0 ho_0 hn_0 hown hK hE hS (0, 0) rfl h0 rfl 11 (by decide) (hT _ kw_98) (fun _ h9 => h9) rfl (by decide +kernel) rfl rfl (Nat.le_of_ble_eq_true rfl) d_X_list_113 (fun H locs hE hS => ?_)
                              refine fr_new (ci := 1) (fs := [.int 0, .int 0, .int 0, .null]) (Cn := hR_1) (T := hF_1) (N := 4) hx hb hT hi_1 hy_1 ho_1 hown (hT _ kw_193) (hT _ kw_194) (hT _ kw_27) hK hE hS 25 rfl (fun j hj => by rcases (show j = 0 ∨ j = 1 ∨ j = 2 ∨ j = 3 by omega) with rfl | rfl | rfl | rfl <;> rfl) (Nat.le_of_ble_eq_true rfl) (Nat.le_of_ble_eq_true rfl) d_X_list_116 (fun q25 H nq25 hE hS => ?_)
                              refine W.widen (k := 1) (n := 4) (Nat.le_of_ble_eq_true rfl) (Nat.le_of_ble_eq_true rfl) ?_
                              refine lv_dup hx hb d_X_list_119 rfl ?_
                              refine lv_iload_n hx hb d_X_list_120 rfl (lv_at hl 2 rfl) ?_
                              refine lv_iload_n hx hb d_X_list_121 rfl (lv_at hl 3 rfl) ?_
                              refine lv_aload_n hx hb d_X_list_122 rfl (lv_at hl 1 rfl) ?_
                              refine fr_get (ci := 0) (Cn := hR_0) (T := hF_0) (N := 16) hx hb hT hi_0 hown hK hE (0, 0) rfl rfl rfl 9 (by decide) (hT _ kw_96) (fun _ h9 => h9) rfl d_X_list_123 ?_
                              refine lv_aload_n hx hb d_X_list_126 rfl (lv_at hl 1 rfl) ?_
                              refine fr_get (ci := 0) (Cn := hR_0) (T := hF_0) (N := 16) hx hb hT hi_0 hown hK hE (0, 0) rfl rfl rfl 10 (by decide) (hT _ kw_97) (fun _ h9 => h9) rfl d_X_list_127 ?_
                              refine lv_iload hx hb d_X_list_130 (lv_at hl 0 rfl) ?_
                              refine fr_callq (va_runS (As := [.ref (b 6), .int (nI (gaF (selB fr to of dy st) dy n).2)]) (rest := [.int (nI an), .int f, .int (nI j_1), .ref q25, .ref q25]) ⟨hx, hb, hml, hown, hts⟩ (c_Ar_copyOf l hE (od := u_13) rfl (gaF (selB fr to of dy st) dy n).2 hk150) (va_cwS 2 hts (hw_goodS kw_195 kw_196 kw_28 kw_197) rfl rfl rfl (by decide +kernel) ⟨Nat.le_of_ble_eq_true rfl, Nat.le_of_ble_eq_true rfl⟩) ⟨fr_blindX, fr_preX hE hK hX hS⟩ rfl rfl hl.1 rfl (lv_room (Nat.le_of_ble_eq_true rfl)) d_X_list_132 ⟨Nat.le_of_ble_eq_true rfl, Nat.le_of_ble_eq_true rfl⟩) hS (fun r_17 u_17 H locs w_17 hE hS => ?_)
                              obtain ⟨q26, fnm⟩ := u_17
                              obtain ⟨rfl, hcp⟩ := w_17
                              replace hcp : ∀ j, j < (gaF (selB fr to of dy st) dy n).2 → fnm j = u_13 j := hcp
                              refine fr_callv (va_runI (As := [.int (nI j_1), .int f, .int (nI an), .ref q26]) (rest := [.ref q25]) ⟨hx, hb, hml, hown, hts⟩ (c_L_init l hE rfl (nI j_1) f (nI an) q26) (cwI 4 hts (hw_good kw_211) rfl rfl rfl (hT _ kw_27) (hT _ kw_209) (hT _ kw_210) rfl (by decide +kernel) ⟨Nat.le_of_ble_eq_true rfl, Nat.le_of_ble_eq_true rfl⟩) ⟨fr_blind, fr_pre hE hK⟩ rfl rfl hl.1 rfl (lv_room (Nat.le_of_ble_eq_true rfl)) d_X_list_135 ⟨Nat.le_of_ble_eq_true rfl, Nat.le_of_ble_eq_true rfl⟩) hS (fun u_18 H locs w_18 hE hS => ?_)
                              replace hE : fr_W D hCl z (fr_ub (fr_ub b 25 q25) 26 q26) (fr_up (fr_up (fr_up (fr_up (fr_up C (0, 6) (.inl (cI, 150, .inl u_13))) (0, 0) (.inr (0, fX b pg gr lf n an (lc + 1) po))) (0, 25) (.inr (1, [.int 0, .int 0, .int 0, .null]))) (0, 26) (.inl (cI, (gaF (selB fr to of dy st) dy n).2, .inl fnm))) (0, 25) (.inr (1, [.int (nI j_1), .int f, .int (nI an), .ref q26]))) H := hE
                              obtain ⟨D1, hE, r1, s1, t1, u1⟩ := hE.ret1 25 (fr_up_self _ _ _)
                              obtain ⟨D2, hE, r2, s2, t2, u2⟩ := hE.ret1 26 ((t1 26 (by decide)).trans rfl)
                              replace r1 : D1 (1, q25) = some (.inr (1, [.int (nI j_1), .int f, .int (nI an), .ref q26])) := r1
                              replace r2 : D2 (1, q26) = some (.inl (cI, (gaF (selB fr to of dy st) dy n).2, .inl fnm)) := r2
                              replace u1 : C (1, q25) = none := u1
                              have hfx : ∀ i, i ≠ 25 → i ≠ 26 → D2 (0, i) = (fr_up (fr_up (fr_up (fr_up (fr_up C (0, 6) (.inl (cI, 150, .inl u_13))) (0, 0) (.inr (0, fX b pg gr lf n an (lc + 1) po))) (0, 25) (.inr (1, [.int 0, .int 0, .int 0, .null]))) (0, 26) (.inl (cI, (gaF (selB fr to of dy st) dy n).2, .inl fnm))) (0, 25) (.inr (1, [.int (nI j_1), .int f, .int (nI an), .ref q26]))) (0, i) := fun i h1 h2 => (t2 i h2).trans (t1 i h1)
                              have hpl : ∀ a e, C (1, a) = some e → D2 (1, a) = some e := fun a e y => s2 _ _ (s1 _ _ y)
                              have u3 : C (1, q26) = none := by cases hc : C (1, q26) with | none => rfl | some e9 => exact absurd ((s1 _ _ hc).symm.trans u2) (by simp)
                              have hcl : ∀ i, i ≠ 0 → i ≠ 6 → i < 20 ∨ 28 ≤ i → D2 (0, i) = C (0, i) := fun i h1 h2 h3 => (hfx i (by omega) (by omega)).trans ((fr_up_ne (by simp; omega)).trans ((fr_up_ne (by simp; omega)).trans ((fr_up_ne (by simp; omega)).trans ((fr_up_ne (by simp; omega)).trans (fr_up_ne (by simp; omega))))))
                              have k0 : D2 (0, 0) = some (.inr (0, fX b pg gr lf n an (lc + 1) po)) := (hfx 0 (by decide) (by decide)).trans rfl
                              have k6 : D2 (0, 6) = some (.inl (cI, 150, .inl u_13)) := (hfx 6 (by decide) (by decide)).trans rfl
                              have k3 := (hcl 3 (by decide) (by decide) (by decide)).trans h3
                              have k4 := (hcl 4 (by decide) (by decide) (by decide)).trans h4
                              have k5 := (hcl 5 (by decide) (by decide) (by decide)).trans h5
                              have k7 := (hcl 7 (by decide) (by decide) (by decide)).trans h7
                              have k8 := (hcl 8 (by decide) (by decide) (by decide)).trans h8
                              have k9 := (hcl 9 (by decide) (by decide) (by decide)).trans h9a
                              have klg := s2 _ _ r1
                              have hls2 := hls.mono hpl
                              have hgg : ∀ k, k < (gaF (selB fr to of dy st) dy n).2 → fnm k = nI ((gaF (selB fr to of dy st) dy n).1 k) ∧ (gaF (selB fr to of dy st) dy n).1 k < 150 := fun k hk => ⟨(hcp k hk).trans (hsrt k hk), by have := gaF_lt (selB fr to of dy st) dy n k hk; omega⟩
                              have hLs : xLs z C D2 b (fr_ub (fr_ub b 25 q25) 26 q26) cI pg gr lf n an lc po (gaF (selB fr to of dy st) dy n).1 (gaF (selB fr to of dy st) dy n).2 q25 q26 (nI j_1) f := ⟨⟨fnm, r2, fun j hj => (hgg j hj).1⟩, klg, k0, ⟨_, k6⟩, hpl, hcl, fun i hi => (fr_ub_ne (by omega)).trans (fr_ub_ne (by omega)), u1, u3, (hE.2.1 (1, q25) _ klg).2, (hE.2.1 (1, q26) _ r2).2⟩
                              refine lv_astore (lv' := [(8, .ref q25), (7, .int (nI (gaF (selB fr to of dy st) dy n).2)), (0, .ref (b 0)), (1, .int (nI j_1)), (2, .int f), (3, .int fr), (4, .int to), (5, .int of), (6, .int t)]) hx hb d_X_list_138 hl (by decide) rfl (fun ls hl => ?_)
                              refine lv_aload_n hx hb d_X_list_140 rfl (lv_at hl 2 rfl) ?_
                              refine lv_iload_n hx hb d_X_list_141 rfl (lv_at hl 3 rfl) ?_
                              refine lv_aload_n hx hb d_X_list_142 rfl (lv_at hl 2 rfl) ?_
                              refine lv_aload hx hb d_X_list_143 (lv_at hl 0 rfl) ?_
                              refine lv_iconst (v := 0) hx hb d_X_list_145 (by decide) ?_
                              refine lv_iload hx hb d_X_list_146 (lv_at hl 8 rfl) ?_
                              refine fr_callq (va_runV (As := [.ref q25, .int 0, .int t]) (rest := [.int (nI j_1), .ref (b 0)]) ⟨hx, hb, hml, hown, hts⟩ (c_X_makePage l hE (pg := pg) (gr := gr) (lf := lf) (n := n) (an := an) (lc := lc + 1) (po := po) k0 k3 k4 k5 klg r2 k7 hls2 0 (if pg < (gaF (selB fr to of dy st) dy n).2 then pg else (gaF (selB fr to of dy st) dy n).2) t (gaF (selB fr to of dy st) dy n).1 htk hpg hk150 (Nat.zero_le _) (by rw [Nat.zero_add, Nat.zero_add]) hdl hgg) (cwV 3 hts (hw_goodV kw_230 kw_232 kw_6 kw_21 kw_233) rfl rfl rfl (by decide +kernel) ⟨Nat.le_of_ble_eq_true rfl, Nat.le_of_ble_eq_true rfl⟩) ⟨fr_blindX, fr_recv hK hE (0, 0) rfl k0 (ci := 0) rfl, fr_preX hE hK hX hS⟩ rfl rfl hl.1 rfl (lv_room (Nat.le_of_ble_eq_true rfl)) d_X_list_148 ⟨Nat.le_of_ble_eq_true rfl, Nat.le_of_ble_eq_true rfl⟩) hS (fun r_19 u_19 H locs w_19 hE hS => ?_)
                              obtain ⟨b9, C9⟩ := u_19
                              obtain ⟨pa9, rfl, ⟨p0, p1, p2, p3, p4, p7, hb9⟩, hPg⟩ := w_19
                              replace hb9 : b9 = fr_ub (fr_ub (fr_ub (fr_ub (fr_ub (fr_ub (fr_ub (fr_ub b 25 q25) 26 q26) 20 p0) 21 p1) 22 p2) 23 p3) 24 p4) 27 p7 := hb9
                              subst hb9
                              obtain ⟨pn, pd, pz, nt9, fn9, fd9, fz9, y1, -, -, -, -, -, y0, -, yfx, hbb, -, -⟩ := id hPg
                              replace y1 : C9 (1, pa9) = some (.inr (2, [.int f, .ref pn, .ref pd, .ref pz, .int (nI (kp (keepB ac (nI an)) (gaF (selB fr to of dy st) dy n).1 0 (if pg < (gaF (selB fr to of dy st) dy n).2 then pg else (gaF (selB fr to of dy st) dy n).2)).length), .int nt9])) := y1
                              replace y0 : C9 (0, 0) = some (.inr (0, fX b pg gr lf n an (lc + 1) (po + ((if pg < (gaF (selB fr to of dy st) dy n).2 then pg else (gaF (selB fr to of dy st) dy n).2) - (kp (keepB ac (nI an)) (gaF (selB fr to of dy st) dy n).1 0 (if pg < (gaF (selB fr to of dy st) dy n).2 then pg else (gaF (selB fr to of dy st) dy n).2)).length)))) := y0
                              have y8 : C9 (0, 8) = some (.inl (cP, 10, .inr (.inr (.inr (.inr lp))))) := (yfx 8 (by decide) (by decide) (by decide)).trans k8
                              have y9 : C9 (0, 9) = some (.inl (cI, 10, .inl cs)) := (yfx 9 (by decide) (by decide) (by decide)).trans k9
                              refine fr_calli (va_runV (As := [.int (nI j_1), .ref pa9]) (rest := []) ⟨hx, hb, hml, hown, hts⟩ (c_X_answer l hE (pg := pg) (gr := gr) (lf := lf) (n := n) (an := an) (lc := lc + 1) (po := po + ((if pg < (gaF (selB fr to of dy st) dy n).2 then pg else (gaF (selB fr to of dy st) dy n).2) - (kp (keepB ac (nI an)) (gaF (selB fr to of dy st) dy n).1 0 (if pg < (gaF (selB fr to of dy st) dy n).2 then pg else (gaF (selB fr to of dy st) dy n).2)).length)) y0 y8 y9 pa9 y1 j_1 hj_1) (cwV 2 hts (hw_goodV kw_341 kw_343 kw_10 kw_21 kw_344) rfl rfl rfl (by decide +kernel) ⟨Nat.le_of_ble_eq_true rfl, Nat.le_of_ble_eq_true rfl⟩) ⟨fr_blind, fr_recv hK hE (0, 0) rfl y0 (ci := 0) rfl, fr_pre hE hK⟩ rfl rfl hl.1 rfl (lv_room (Nat.le_of_ble_eq_true rfl)) d_X_list_151 ⟨Nat.le_of_ble_eq_true rfl, Nat.le_of_ble_eq_true rfl⟩) hS (fun r_20 u_20 H locs w_20 hE hS => ?_)
                              obtain rfl : r_20 = nI (kp (keepB ac (nI an)) (gaF (selB fr to of dy st) dy n).1 0 (if pg < (gaF (selB fr to of dy st) dy n).2 then pg else (gaF (selB fr to of dy st) dy n).2)).length := w_20
                              refine W.widen (k := 8) (n := 2564) (Nat.le_of_ble_eq_true rfl) (Nat.le_of_ble_eq_true rfl) ?_
                              exact W.iret (v := nI (kp (keepB ac (nI an)) (gaF (selB fr to of dy st) dy n).1 0 (if pg < (gaF (selB fr to of dy st) dy n).2 then pg else (gaF (selB fr to of dy st) dy n).2)).length) hx hb hr (fun t9 ht9 hW9 => ⟨⟨nI (kp (keepB ac (nI an)) (gaF (selB fr to of dy st) dy n).1 0 (if pg < (gaF (selB fr to of dy st) dy n).2 then pg else (gaF (selB fr to of dy st) dy n).2)).length, (_, xAns C9 cI cP lp cs j_1 pa9 (nI (kp (keepB ac (nI an)) (gaF (selB fr to of dy st) dy n).1 0 (if pg < (gaF (selB fr to of dy st) dy n).2 then pg else (gaF (selB fr to of dy st) dy n).2)).length)), rfl, Or.inr ⟨⟨⟨j_1, hj_1, rfl⟩, pw_3, ⟨pw_5, pw_7, c_9⟩, pw_10, hof, hpos, hlt⟩, j_1, q25, q26, pa9, D2, C9, _, hj_1, rfl, hLs, hPg, fun i hi => (hbb i hi).trans (hLs.2.2.2.2.2.2.1 i hi), rfl, rfl⟩, ⟨by rw [ht9]; exact hE, va_K.moved hW9.alike hK⟩⟩, hS.F ht9⟩) hS.2.2 d_X_list_154
                            · skip
                              have hful : 30 ≤ lc := by rcases Nat.lt_or_ge lc 30 with y | y; exact absurd (nI_lt y (by omega)) c_15; exact y
                              refine lv_bipush (v := (-4)) hx hb d_X_list_103 (by decide) ?_
                              refine W.widen (k := 8) (n := 2564) (Nat.le_of_ble_eq_true rfl) (Nat.le_of_ble_eq_true rfl) ?_
                              exact W.iret (v := (-4)) hx hb hr (fun t9 ht9 hW9 => ⟨⟨(-4), (b, fr_up C (0, 6) (.inl (cI, 150, .inl u_13))), rfl, Or.inl ⟨Or.inr (Or.inr (Or.inr (Or.inr (Or.inr (Or.inr ⟨⟨j_1, hj_1, rfl⟩, pw_3, ⟨pw_5, pw_7, c_9⟩, pw_10, hof, hpos, hful, rfl⟩))))), rfl, ⟨u_13, rfl⟩⟩, ⟨by rw [ht9]; exact hE, va_K.moved hW9.alike hK⟩⟩, hS.F ht9⟩) hS.2.2 d_X_list_105
                          · skip
                            have hzer : (gaF (selB fr to of dy st) dy n).2 = 0 := by rcases Nat.eq_zero_or_pos (gaF (selB fr to of dy st) dy n).2 with y | y; exact y; exact absurd (nI_le (a := 1) y (by omega)) c_14
                            refine lv_bipush (v := (-14)) hx hb d_X_list_91 (by decide) ?_
                            refine W.widen (k := 8) (n := 2564) (Nat.le_of_ble_eq_true rfl) (Nat.le_of_ble_eq_true rfl) ?_
                            exact W.iret (v := (-14)) hx hb hr (fun t9 ht9 hW9 => ⟨⟨(-14), (b, fr_up C (0, 6) (.inl (cI, 150, .inl u_13))), rfl, Or.inl ⟨Or.inr (Or.inr (Or.inr (Or.inr (Or.inr (Or.inl ⟨⟨j_1, hj_1, rfl⟩, pw_3, ⟨pw_5, pw_7, c_9⟩, pw_10, hof, hzer, rfl⟩))))), rfl, ⟨u_13, rfl⟩⟩, ⟨by rw [ht9]; exact hE, va_K.moved hW9.alike hK⟩⟩, hS.F ht9⟩) hS.2.2 d_X_list_93
                        · skip
                          refine lv_iload hx hb d_X_list_63 (lv_at hl 5 rfl) ?_
                          refine fr_calli (va_runS (As := [.int of]) (rest := []) ⟨hx, hb, hml, hown, hts⟩ (c_X_isSet l hE of) (va_cwS 1 hts (hw_goodS kw_140 kw_141 kw_21 kw_142) rfl rfl rfl (by decide +kernel) ⟨Nat.le_of_ble_eq_true rfl, Nat.le_of_ble_eq_true rfl⟩) ⟨fr_blind, fr_pre hE hK⟩ rfl rfl hl.1 rfl (lv_room (Nat.le_of_ble_eq_true rfl)) d_X_list_65 ⟨Nat.le_of_ble_eq_true rfl, Nat.le_of_ble_eq_true rfl⟩) hS (fun r_21 u_21 H locs w_21 hE hS => ?_)
                          rcases w_21 with ⟨rfl, pw_21⟩ | ⟨rfl, pw_21⟩
                          · skip
                            refine lv_if_ne (tgt := 74) hx hb d_X_list_68 (by decide) (fun c_22 => ?_) (fun c_22 => ?_)
                            · skip
                              have hof : okSet of := Or.inr pw_21
                              have hk150 : (gaF (selB fr to of dy st) dy n).2 ≤ 150 := by have := gaF_le (selB fr to of dy st) dy n; omega
                              refine lv_aload_n hx hb d_X_list_74 rfl (lv_at hl 0 rfl) ?_
                              refine lv_iload_n hx hb d_X_list_75 rfl (lv_at hl 3 rfl) ?_
                              refine lv_iload hx hb d_X_list_76 (lv_at hl 4 rfl) ?_
                              refine lv_iload hx hb d_X_list_78 (lv_at hl 5 rfl) ?_
                              refine fr_calli (va_runV (As := [.int fr, .int to, .int of]) (rest := []) ⟨hx, hb, hml, hown, hts⟩ (c_X_sortSpan l hE (pg := pg) (gr := gr) (lf := lf) (n := n) (an := an) (lc := lc) (po := po) h0 h2 h3 h6 hn fr to of hof) (cwV 3 hts (hw_goodV kw_185 kw_187 kw_4 kw_21 kw_188) rfl rfl rfl (by decide +kernel) ⟨Nat.le_of_ble_eq_true rfl, Nat.le_of_ble_eq_true rfl⟩) ⟨fr_blind, fr_recv hK hE (0, 0) rfl h0 (ci := 0) rfl, fr_pre hE hK⟩ rfl rfl hl.1 rfl (lv_room (Nat.le_of_ble_eq_true rfl)) d_X_list_80 ⟨Nat.le_of_ble_eq_true rfl, Nat.le_of_ble_eq_true rfl⟩) hS (fun r_23 u_23 H locs w_23 hE hS => ?_)
                              obtain ⟨rfl, hsrt⟩ := w_23
                              refine lv_istore (lv' := [(7, .int (nI (gaF (selB fr to of dy st) dy n).2)), (0, .ref (b 0)), (1, .int (nI j_1)), (2, .int f), (3, .int fr), (4, .int to), (5, .int of), (6, .int t)]) hx hb d_X_list_83 hl (by decide) rfl (fun ls hl => ?_)
                              refine lv_iload hx hb d_X_list_85 (lv_at hl 0 rfl) ?_
                              refine lv_iconst (v := 1) hx hb d_X_list_87 (by decide) ?_
                              refine lv_icmp_ge (tgt := 94) hx hb d_X_list_88 (by decide) (fun c_24 => ?_) (fun c_24 => ?_)
                              · skip
                                have hpos : 0 < (gaF (selB fr to of dy st) dy n).2 := by rcases Nat.eq_zero_or_pos (gaF (selB fr to of dy st) dy n).2 with y | y; exact absurd c_24 (by rw [y]; decide); exact y
                                refine lv_aload_n hx hb d_X_list_94 rfl (lv_at hl 1 rfl) ?_
                                refine fr_get (ci := 0) (Cn := hR_0) (T := hF_0) (N := 16) hx hb hT hi_0 hown hK hE (0, 0) rfl h0 rfl 11 (by decide) (hT _ kw_98) (fun _ h9 => h9) rfl d_X_list_95 ?_
                                refine lv_bipush (v := 30) hx hb d_X_list_98 (by decide) ?_
                                refine lv_icmp_lt (tgt := 106) hx hb d_X_list_100 (by decide) (fun c_25 => ?_) (fun c_25 => ?_)
                                · skip
                                  have hlt : lc < 30 := by rcases Nat.lt_or_ge lc 30 with y | y; exact y; exact absurd c_25 (nI_nlt y (by omega))
                                  refine lv_aload_n hx hb d_X_list_106 rfl (lv_at hl 1 rfl) ?_
                                  refine lv_dup hx hb d_X_list_107 rfl ?_
                                  refine fr_get (ci := 0) (Cn := hR_0) (T := hF_0) (N := 16) hx hb hT hi_0 hown hK hE (0, 0) rfl h0 rfl 11 (by decide) (hT _ kw_98) (fun _ h9 => h9) rfl d_X_list_108 ?_
                                  refine lv_iconst (v := 1) hx hb d_X_list_111 (by decide) ?_
                                  refine lv_iadd hx hb d_X_list_112 ?_
                                  refine lv_topi (fun y_26 ey_26 => ?_)
                                  obtain rfl : y_26 = nI (lc + 1) := ey_26.trans (nI_1 lc)
                                  refine fr_put (ci := 0) (v := .int (nI (lc + 1))) (ty := .int) (Cn := hR_0) (T := hF_0) (N := 16) hx hb hT hi_0 hy_0 ho_0 hn_0 hown hK hE hS (0, 0) rfl h0 rfl 11 (by decide) (hT _ kw_98) (fun _ h9 => h9) rfl (by decide +kernel) rfl rfl (Nat.le_of_ble_eq_true rfl) d_X_list_113 (fun H locs hE hS => ?_)
                                  refine fr_new (ci := 1) (fs := [.int 0, .int 0, .int 0, .null]) (Cn := hR_1) (T := hF_1) (N := 4) hx hb hT hi_1 hy_1 ho_1 hown (hT _ kw_193) (hT _ kw_194) (hT _ kw_27) hK hE hS 25 rfl (fun j hj => by rcases (show j = 0 ∨ j = 1 ∨ j = 2 ∨ j = 3 by omega) with rfl | rfl | rfl | rfl <;> rfl) (Nat.le_of_ble_eq_true rfl) (Nat.le_of_ble_eq_true rfl) d_X_list_116 (fun q25 H nq25 hE hS => ?_)
                                  refine W.widen (k := 1) (n := 4) (Nat.le_of_ble_eq_true rfl) (Nat.le_of_ble_eq_true rfl) ?_
                                  refine lv_dup hx hb d_X_list_119 rfl ?_
                                  refine lv_iload_n hx hb d_X_list_120 rfl (lv_at hl 2 rfl) ?_
                                  refine lv_iload_n hx hb d_X_list_121 rfl (lv_at hl 3 rfl) ?_
                                  refine lv_aload_n hx hb d_X_list_122 rfl (lv_at hl 1 rfl) ?_
                                  refine fr_get (ci := 0) (Cn := hR_0) (T := hF_0) (N := 16) hx hb hT hi_0 hown hK hE (0, 0) rfl rfl rfl 9 (by decide) (hT _ kw_96) (fun _ h9 => h9) rfl d_X_list_123 ?_
                                  refine lv_aload_n hx hb d_X_list_126 rfl (lv_at hl 1 rfl) ?_
                                  refine fr_get (ci := 0) (Cn := hR_0) (T := hF_0) (N := 16) hx hb hT hi_0 hown hK hE (0, 0) rfl rfl rfl 10 (by decide) (hT _ kw_97) (fun _ h9 => h9) rfl d_X_list_127 ?_
                                  refine lv_iload hx hb d_X_list_130 (lv_at hl 0 rfl) ?_
                                  refine fr_callq (va_runS (As := [.ref (b 6), .int (nI (gaF (selB fr to of dy st) dy n).2)]) (rest := [.int (nI an), .int f, .int (nI j_1), .ref q25, .ref q25]) ⟨hx, hb, hml, hown, hts⟩ (c_Ar_copyOf l hE (od := u_23) rfl (gaF (selB fr to of dy st) dy n).2 hk150) (va_cwS 2 hts (hw_goodS kw_195 kw_196 kw_28 kw_197) rfl rfl rfl (by decide +kernel) ⟨Nat.le_of_ble_eq_true rfl, Nat.le_of_ble_eq_true rfl⟩) ⟨fr_blindX, fr_preX hE hK hX hS⟩ rfl rfl hl.1 rfl (lv_room (Nat.le_of_ble_eq_true rfl)) d_X_list_132 ⟨Nat.le_of_ble_eq_true rfl, Nat.le_of_ble_eq_true rfl⟩) hS (fun r_27 u_27 H locs w_27 hE hS => ?_)
                                  obtain ⟨q26, fnm⟩ := u_27
                                  obtain ⟨rfl, hcp⟩ := w_27
                                  replace hcp : ∀ j, j < (gaF (selB fr to of dy st) dy n).2 → fnm j = u_23 j := hcp
                                  refine fr_callv (va_runI (As := [.int (nI j_1), .int f, .int (nI an), .ref q26]) (rest := [.ref q25]) ⟨hx, hb, hml, hown, hts⟩ (c_L_init l hE rfl (nI j_1) f (nI an) q26) (cwI 4 hts (hw_good kw_211) rfl rfl rfl (hT _ kw_27) (hT _ kw_209) (hT _ kw_210) rfl (by decide +kernel) ⟨Nat.le_of_ble_eq_true rfl, Nat.le_of_ble_eq_true rfl⟩) ⟨fr_blind, fr_pre hE hK⟩ rfl rfl hl.1 rfl (lv_room (Nat.le_of_ble_eq_true rfl)) d_X_list_135 ⟨Nat.le_of_ble_eq_true rfl, Nat.le_of_ble_eq_true rfl⟩) hS (fun u_28 H locs w_28 hE hS => ?_)
                                  replace hE : fr_W D hCl z (fr_ub (fr_ub b 25 q25) 26 q26) (fr_up (fr_up (fr_up (fr_up (fr_up C (0, 6) (.inl (cI, 150, .inl u_23))) (0, 0) (.inr (0, fX b pg gr lf n an (lc + 1) po))) (0, 25) (.inr (1, [.int 0, .int 0, .int 0, .null]))) (0, 26) (.inl (cI, (gaF (selB fr to of dy st) dy n).2, .inl fnm))) (0, 25) (.inr (1, [.int (nI j_1), .int f, .int (nI an), .ref q26]))) H := hE
                                  obtain ⟨D1, hE, r1, s1, t1, u1⟩ := hE.ret1 25 (fr_up_self _ _ _)
                                  obtain ⟨D2, hE, r2, s2, t2, u2⟩ := hE.ret1 26 ((t1 26 (by decide)).trans rfl)
                                  replace r1 : D1 (1, q25) = some (.inr (1, [.int (nI j_1), .int f, .int (nI an), .ref q26])) := r1
                                  replace r2 : D2 (1, q26) = some (.inl (cI, (gaF (selB fr to of dy st) dy n).2, .inl fnm)) := r2
                                  replace u1 : C (1, q25) = none := u1
                                  have hfx : ∀ i, i ≠ 25 → i ≠ 26 → D2 (0, i) = (fr_up (fr_up (fr_up (fr_up (fr_up C (0, 6) (.inl (cI, 150, .inl u_23))) (0, 0) (.inr (0, fX b pg gr lf n an (lc + 1) po))) (0, 25) (.inr (1, [.int 0, .int 0, .int 0, .null]))) (0, 26) (.inl (cI, (gaF (selB fr to of dy st) dy n).2, .inl fnm))) (0, 25) (.inr (1, [.int (nI j_1), .int f, .int (nI an), .ref q26]))) (0, i) := fun i h1 h2 => (t2 i h2).trans (t1 i h1)
                                  have hpl : ∀ a e, C (1, a) = some e → D2 (1, a) = some e := fun a e y => s2 _ _ (s1 _ _ y)
                                  have u3 : C (1, q26) = none := by cases hc : C (1, q26) with | none => rfl | some e9 => exact absurd ((s1 _ _ hc).symm.trans u2) (by simp)
                                  have hcl : ∀ i, i ≠ 0 → i ≠ 6 → i < 20 ∨ 28 ≤ i → D2 (0, i) = C (0, i) := fun i h1 h2 h3 => (hfx i (by omega) (by omega)).trans ((fr_up_ne (by simp; omega)).trans ((fr_up_ne (by simp; omega)).trans ((fr_up_ne (by simp; omega)).trans ((fr_up_ne (by simp; omega)).trans (fr_up_ne (by simp; omega))))))
                                  have k0 : D2 (0, 0) = some (.inr (0, fX b pg gr lf n an (lc + 1) po)) := (hfx 0 (by decide) (by decide)).trans rfl
                                  have k6 : D2 (0, 6) = some (.inl (cI, 150, .inl u_23)) := (hfx 6 (by decide) (by decide)).trans rfl
                                  have k3 := (hcl 3 (by decide) (by decide) (by decide)).trans h3
                                  have k4 := (hcl 4 (by decide) (by decide) (by decide)).trans h4
                                  have k5 := (hcl 5 (by decide) (by decide) (by decide)).trans h5
                                  have k7 := (hcl 7 (by decide) (by decide) (by decide)).trans h7
                                  have k8 := (hcl 8 (by decide) (by decide) (by decide)).trans h8
                                  have k9 := (hcl 9 (by decide) (by decide) (by decide)).trans h9a
                                  have klg := s2 _ _ r1
                                  have hls2 := hls.mono hpl
                                  have hgg : ∀ k, k < (gaF (selB fr to of dy st) dy n).2 → fnm k = nI ((gaF (selB fr to of dy st) dy n).1 k) ∧ (gaF (selB fr to of dy st) dy n).1 k < 150 := fun k hk => ⟨(hcp k hk).trans (hsrt k hk), by have := gaF_lt (selB fr to of dy st) dy n k hk; omega⟩
                                  have hLs : xLs z C D2 b (fr_ub (fr_ub b 25 q25) 26 q26) cI pg gr lf n an lc po (gaF (selB fr to of dy st) dy n).1 (gaF (selB fr to of dy st) dy n).2 q25 q26 (nI j_1) f := ⟨⟨fnm, r2, fun j hj => (hgg j hj).1⟩, klg, k0, ⟨_, k6⟩, hpl, hcl, fun i hi => (fr_ub_ne (by omega)).trans (fr_ub_ne (by omega)), u1, u3, (hE.2.1 (1, q25) _ klg).2, (hE.2.1 (1, q26) _ r2).2⟩
                                  refine lv_astore (lv' := [(8, .ref q25), (7, .int (nI (gaF (selB fr to of dy st) dy n).2)), (0, .ref (b 0)), (1, .int (nI j_1)), (2, .int f), (3, .int fr), (4, .int to), (5, .int of), (6, .int t)]) hx hb d_X_list_138 hl (by decide) rfl (fun ls hl => ?_)
                                  refine lv_aload_n hx hb d_X_list_140 rfl (lv_at hl 2 rfl) ?_
                                  refine lv_iload_n hx hb d_X_list_141 rfl (lv_at hl 3 rfl) ?_
                                  refine lv_aload_n hx hb d_X_list_142 rfl (lv_at hl 2 rfl) ?_
                                  refine lv_aload hx hb d_X_list_143 (lv_at hl 0 rfl) ?_
                                  refine lv_iconst (v := 0) hx hb d_X_list_145 (by decide) ?_
                                  refine lv_iload hx hb d_X_list_146 (lv_at hl 8 rfl) ?_
                                  refine fr_callq (va_runV (As := [.ref q25, .int 0, .int t]) (rest := [.int (nI j_1), .ref (b 0)]) ⟨hx, hb, hml, hown, hts⟩ (c_X_makePage l hE (pg := pg) (gr := gr) (lf := lf) (n := n) (an := an) (lc := lc + 1) (po := po) k0 k3 k4 k5 klg r2 k7 hls2 0 (if pg < (gaF (selB fr to of dy st) dy n).2 then pg else (gaF (selB fr to of dy st) dy n).2) t (gaF (selB fr to of dy st) dy n).1 htk hpg hk150 (Nat.zero_le _) (by rw [Nat.zero_add, Nat.zero_add]) hdl hgg) (cwV 3 hts (hw_goodV kw_230 kw_232 kw_6 kw_21 kw_233) rfl rfl rfl (by decide +kernel) ⟨Nat.le_of_ble_eq_true rfl, Nat.le_of_ble_eq_true rfl⟩) ⟨fr_blindX, fr_recv hK hE (0, 0) rfl k0 (ci := 0) rfl, fr_preX hE hK hX hS⟩ rfl rfl hl.1 rfl (lv_room (Nat.le_of_ble_eq_true rfl)) d_X_list_148 ⟨Nat.le_of_ble_eq_true rfl, Nat.le_of_ble_eq_true rfl⟩) hS (fun r_29 u_29 H locs w_29 hE hS => ?_)
                                  obtain ⟨b9, C9⟩ := u_29
                                  obtain ⟨pa9, rfl, ⟨p0, p1, p2, p3, p4, p7, hb9⟩, hPg⟩ := w_29
                                  replace hb9 : b9 = fr_ub (fr_ub (fr_ub (fr_ub (fr_ub (fr_ub (fr_ub (fr_ub b 25 q25) 26 q26) 20 p0) 21 p1) 22 p2) 23 p3) 24 p4) 27 p7 := hb9
                                  subst hb9
                                  obtain ⟨pn, pd, pz, nt9, fn9, fd9, fz9, y1, -, -, -, -, -, y0, -, yfx, hbb, -, -⟩ := id hPg
                                  replace y1 : C9 (1, pa9) = some (.inr (2, [.int f, .ref pn, .ref pd, .ref pz, .int (nI (kp (keepB ac (nI an)) (gaF (selB fr to of dy st) dy n).1 0 (if pg < (gaF (selB fr to of dy st) dy n).2 then pg else (gaF (selB fr to of dy st) dy n).2)).length), .int nt9])) := y1
                                  replace y0 : C9 (0, 0) = some (.inr (0, fX b pg gr lf n an (lc + 1) (po + ((if pg < (gaF (selB fr to of dy st) dy n).2 then pg else (gaF (selB fr to of dy st) dy n).2) - (kp (keepB ac (nI an)) (gaF (selB fr to of dy st) dy n).1 0 (if pg < (gaF (selB fr to of dy st) dy n).2 then pg else (gaF (selB fr to of dy st) dy n).2)).length)))) := y0
                                  have y8 : C9 (0, 8) = some (.inl (cP, 10, .inr (.inr (.inr (.inr lp))))) := (yfx 8 (by decide) (by decide) (by decide)).trans k8
                                  have y9 : C9 (0, 9) = some (.inl (cI, 10, .inl cs)) := (yfx 9 (by decide) (by decide) (by decide)).trans k9
                                  refine fr_calli (va_runV (As := [.int (nI j_1), .ref pa9]) (rest := []) ⟨hx, hb, hml, hown, hts⟩ (c_X_answer l hE (pg := pg) (gr := gr) (lf := lf) (n := n) (an := an) (lc := lc + 1) (po := po + ((if pg < (gaF (selB fr to of dy st) dy n).2 then pg else (gaF (selB fr to of dy st) dy n).2) - (kp (keepB ac (nI an)) (gaF (selB fr to of dy st) dy n).1 0 (if pg < (gaF (selB fr to of dy st) dy n).2 then pg else (gaF (selB fr to of dy st) dy n).2)).length)) y0 y8 y9 pa9 y1 j_1 hj_1) (cwV 2 hts (hw_goodV kw_341 kw_343 kw_10 kw_21 kw_344) rfl rfl rfl (by decide +kernel) ⟨Nat.le_of_ble_eq_true rfl, Nat.le_of_ble_eq_true rfl⟩) ⟨fr_blind, fr_recv hK hE (0, 0) rfl y0 (ci := 0) rfl, fr_pre hE hK⟩ rfl rfl hl.1 rfl (lv_room (Nat.le_of_ble_eq_true rfl)) d_X_list_151 ⟨Nat.le_of_ble_eq_true rfl, Nat.le_of_ble_eq_true rfl⟩) hS (fun r_30 u_30 H locs w_30 hE hS => ?_)
                                  obtain rfl : r_30 = nI (kp (keepB ac (nI an)) (gaF (selB fr to of dy st) dy n).1 0 (if pg < (gaF (selB fr to of dy st) dy n).2 then pg else (gaF (selB fr to of dy st) dy n).2)).length := w_30
                                  refine W.widen (k := 8) (n := 2564) (Nat.le_of_ble_eq_true rfl) (Nat.le_of_ble_eq_true rfl) ?_
                                  exact W.iret (v := nI (kp (keepB ac (nI an)) (gaF (selB fr to of dy st) dy n).1 0 (if pg < (gaF (selB fr to of dy st) dy n).2 then pg else (gaF (selB fr to of dy st) dy n).2)).length) hx hb hr (fun t9 ht9 hW9 => ⟨⟨nI (kp (keepB ac (nI an)) (gaF (selB fr to of dy st) dy n).1 0 (if pg < (gaF (selB fr to of dy st) dy n).2 then pg else (gaF (selB fr to of dy st) dy n).2)).length, (_, xAns C9 cI cP lp cs j_1 pa9 (nI (kp (keepB ac (nI an)) (gaF (selB fr to of dy st) dy n).1 0 (if pg < (gaF (selB fr to of dy st) dy n).2 then pg else (gaF (selB fr to of dy st) dy n).2)).length)), rfl, Or.inr ⟨⟨⟨j_1, hj_1, rfl⟩, pw_3, ⟨pw_5, pw_7, c_9⟩, pw_10, hof, hpos, hlt⟩, j_1, q25, q26, pa9, D2, C9, _, hj_1, rfl, hLs, hPg, fun i hi => (hbb i hi).trans (hLs.2.2.2.2.2.2.1 i hi), rfl, rfl⟩, ⟨by rw [ht9]; exact hE, va_K.moved hW9.alike hK⟩⟩, hS.F ht9⟩) hS.2.2 d_X_list_154
                                · skip
                                  have hful : 30 ≤ lc := by rcases Nat.lt_or_ge lc 30 with y | y; exact absurd (nI_lt y (by omega)) c_25; exact y
                                  refine lv_bipush (v := (-4)) hx hb d_X_list_103 (by decide) ?_
                                  refine W.widen (k := 8) (n := 2564) (Nat.le_of_ble_eq_true rfl) (Nat.le_of_ble_eq_true rfl) ?_
                                  exact W.iret (v := (-4)) hx hb hr (fun t9 ht9 hW9 => ⟨⟨(-4), (b, fr_up C (0, 6) (.inl (cI, 150, .inl u_23))), rfl, Or.inl ⟨Or.inr (Or.inr (Or.inr (Or.inr (Or.inr (Or.inr ⟨⟨j_1, hj_1, rfl⟩, pw_3, ⟨pw_5, pw_7, c_9⟩, pw_10, hof, hpos, hful, rfl⟩))))), rfl, ⟨u_23, rfl⟩⟩, ⟨by rw [ht9]; exact hE, va_K.moved hW9.alike hK⟩⟩, hS.F ht9⟩) hS.2.2 d_X_list_105
                              · skip
                                have hzer : (gaF (selB fr to of dy st) dy n).2 = 0 := by rcases Nat.eq_zero_or_pos (gaF (selB fr to of dy st) dy n).2 with y | y; exact y; exact absurd (nI_le (a := 1) y (by omega)) c_24
                                refine lv_bipush (v := (-14)) hx hb d_X_list_91 (by decide) ?_
                                refine W.widen (k := 8) (n := 2564) (Nat.le_of_ble_eq_true rfl) (Nat.le_of_ble_eq_true rfl) ?_
                                exact W.iret (v := (-14)) hx hb hr (fun t9 ht9 hW9 => ⟨⟨(-14), (b, fr_up C (0, 6) (.inl (cI, 150, .inl u_23))), rfl, Or.inl ⟨Or.inr (Or.inr (Or.inr (Or.inr (Or.inr (Or.inl ⟨⟨j_1, hj_1, rfl⟩, pw_3, ⟨pw_5, pw_7, c_9⟩, pw_10, hof, hzer, rfl⟩))))), rfl, ⟨u_23, rfl⟩⟩, ⟨by rw [ht9]; exact hE, va_K.moved hW9.alike hK⟩⟩, hS.F ht9⟩) hS.2.2 d_X_list_93
                            · skip
                              exact absurd c_22 (by decide)
                          · skip
                            refine lv_if_ne (tgt := 74) hx hb d_X_list_68 (by decide) (fun c_31 => ?_) (fun c_31 => ?_)
                            · skip
                              exact absurd c_31 (by decide)
                            · skip
                              refine lv_bipush (v := (-13)) hx hb d_X_list_71 (by decide) ?_
                              refine W.widen (k := 8) (n := 2564) (Nat.le_of_ble_eq_true rfl) (Nat.le_of_ble_eq_true rfl) ?_
                              exact W.iret (v := (-13)) hx hb hr (fun t9 ht9 hW9 => ⟨⟨(-13), (b, C), rfl, Or.inl ⟨Or.inr (Or.inr (Or.inr (Or.inr (Or.inl ⟨⟨j_1, hj_1, rfl⟩, pw_3, ⟨pw_5, pw_7, c_9⟩, pw_10, fun y => y.elim c_12 pw_21, rfl⟩)))), rfl, ⟨od, (fr_up_same h6).symm⟩⟩, ⟨by rw [ht9]; exact hE, va_K.moved hW9.alike hK⟩⟩, hS.F ht9⟩) hS.2.2 d_X_list_73
                      · skip
                        exact absurd c_11 (by decide)
                    · skip
                      refine lv_if_ne (tgt := 57) hx hb d_X_list_51 (by decide) (fun c_32 => ?_) (fun c_32 => ?_)
                      · skip
                        exact absurd c_32 (by decide)
                      · skip
                        refine lv_bipush (v := (-12)) hx hb d_X_list_54 (by decide) ?_
                        refine W.widen (k := 8) (n := 2564) (Nat.le_of_ble_eq_true rfl) (Nat.le_of_ble_eq_true rfl) ?_
                        exact W.iret (v := (-12)) hx hb hr (fun t9 ht9 hW9 => ⟨⟨(-12), (b, C), rfl, Or.inl ⟨Or.inr (Or.inr (Or.inr (Or.inl ⟨⟨j_1, hj_1, rfl⟩, pw_3, ⟨pw_5, pw_7, c_9⟩, pw_10, rfl⟩))), rfl, ⟨od, (fr_up_same h6).symm⟩⟩, ⟨by rw [ht9]; exact hE, va_K.moved hW9.alike hK⟩⟩, hS.F ht9⟩) hS.2.2 d_X_list_56
                  · skip
                    refine lv_bipush (v := (-11)) hx hb d_X_list_43 (by decide) ?_
                    refine W.widen (k := 8) (n := 2564) (Nat.le_of_ble_eq_true rfl) (Nat.le_of_ble_eq_true rfl) ?_
                    exact W.iret (v := (-11)) hx hb hr (fun t9 ht9 hW9 => ⟨⟨(-11), (b, C), rfl, Or.inl ⟨Or.inr (Or.inr (Or.inl ⟨⟨j_1, hj_1, rfl⟩, pw_3, fun y => c_9 y.2.2, rfl⟩)), rfl, ⟨od, (fr_up_same h6).symm⟩⟩, ⟨by rw [ht9]; exact hE, va_K.moved hW9.alike hK⟩⟩, hS.F ht9⟩) hS.2.2 d_X_list_45
              · skip
                refine lv_if_eq (tgt := 43) hx hb d_X_list_34 (by decide) (fun c_33 => ?_) (fun c_33 => ?_)
                · skip
                  refine lv_bipush (v := (-11)) hx hb d_X_list_43 (by decide) ?_
                  refine W.widen (k := 8) (n := 2564) (Nat.le_of_ble_eq_true rfl) (Nat.le_of_ble_eq_true rfl) ?_
                  exact W.iret (v := (-11)) hx hb hr (fun t9 ht9 hW9 => ⟨⟨(-11), (b, C), rfl, Or.inl ⟨Or.inr (Or.inr (Or.inl ⟨⟨j_1, hj_1, rfl⟩, pw_3, fun y => pw_7 y.2.1, rfl⟩)), rfl, ⟨od, (fr_up_same h6).symm⟩⟩, ⟨by rw [ht9]; exact hE, va_K.moved hW9.alike hK⟩⟩, hS.F ht9⟩) hS.2.2 d_X_list_45
                · skip
                  exact absurd c_33 (by decide)
          · skip
            refine lv_if_eq (tgt := 43) hx hb d_X_list_25 (by decide) (fun c_34 => ?_) (fun c_34 => ?_)
            · skip
              refine lv_bipush (v := (-11)) hx hb d_X_list_43 (by decide) ?_
              refine W.widen (k := 8) (n := 2564) (Nat.le_of_ble_eq_true rfl) (Nat.le_of_ble_eq_true rfl) ?_
              exact W.iret (v := (-11)) hx hb hr (fun t9 ht9 hW9 => ⟨⟨(-11), (b, C), rfl, Or.inl ⟨Or.inr (Or.inr (Or.inl ⟨⟨j_1, hj_1, rfl⟩, pw_3, fun y => pw_5 y.1, rfl⟩)), rfl, ⟨od, (fr_up_same h6).symm⟩⟩, ⟨by rw [ht9]; exact hE, va_K.moved hW9.alike hK⟩⟩, hS.F ht9⟩) hS.2.2 d_X_list_45
            · skip
              exact absurd c_34 (by decide)
        · skip
          exact absurd c_4 (by decide)
      · skip
        refine lv_if_ne (tgt := 20) hx hb d_X_list_14 (by decide) (fun c_35 => ?_) (fun c_35 => ?_)
        · skip
          exact absurd c_35 (by decide)
        · skip
          refine lv_bipush (v := (-2)) hx hb d_X_list_17 (by decide) ?_
          refine W.widen (k := 8) (n := 2564) (Nat.le_of_ble_eq_true rfl) (Nat.le_of_ble_eq_true rfl) ?_
          exact W.iret (v := (-2)) hx hb hr (fun t9 ht9 hW9 => ⟨⟨(-2), (b, C), rfl, Or.inl ⟨Or.inr (Or.inl ⟨⟨j_1, hj_1, rfl⟩, pw_3, rfl⟩), rfl, ⟨od, (fr_up_same h6).symm⟩⟩, ⟨by rw [ht9]; exact hE, va_K.moved hW9.alike hK⟩⟩, hS.F ht9⟩) hS.2.2 d_X_list_19
    · skip
      exact absurd c_2 (by decide)
  · skip
    refine lv_if_ne (tgt := 9) hx hb d_X_list_4 (by decide) (fun c_36 => ?_) (fun c_36 => ?_)
    · skip
      exact absurd c_36 (by decide)
    · skip
      refine lv_iconst (v := (-1)) hx hb d_X_list_7 (by decide) ?_
      refine W.widen (k := 8) (n := 2564) (Nat.le_of_ble_eq_true rfl) (Nat.le_of_ble_eq_true rfl) ?_
      exact W.iret (v := (-1)) hx hb hr (fun t9 ht9 hW9 => ⟨⟨(-1), (b, C), rfl, Or.inl ⟨Or.inl ⟨pw_1, rfl⟩, rfl, ⟨od, (fr_up_same h6).symm⟩⟩, ⟨by rw [ht9]; exact hE, va_K.moved hW9.alike hK⟩⟩, hS.F ht9⟩) hS.2.2 d_X_list_8
