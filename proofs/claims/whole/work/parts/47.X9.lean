/-- what the class knows of a token: its place in the list's row, its listing and numbers, where its page begins, and the page if it was asked for -/
def xTok (C : fr_C) (cI : ClassId) (f : Nat → Option Nat) (j ta lg nm F mL : Nat) (hv fo ab md : Int32) (pq : Option Nat) (fnm : Nat → Int32) (g : Nat → Nat) : Prop :=
  f j = some ta ∧ C (1, ta) = some (.inr (3, [.ref lg, .int (nI F), .int md, va_rf pq])) ∧ C (1, lg) = some (.inr (1, [.int hv, .int fo, .int ab, .ref nm])) ∧ C (1, nm) = some (.inl (cI, mL, .inl fnm)) ∧ mL ≤ 150 ∧ F ≤ mL ∧ (∀ k, k < mL → fnm k = nI (g k) ∧ g k < 150) ∧ ∀ pa, pq = some pa → ∃ (fo' : Int32) (pn pd pz : Nat) (ct nt : Int32), C (1, pa) = some (.inr (2, [.int fo', .ref pn, .ref pd, .ref pz, .int ct, .int nt]))
set_option maxHeartbeats 4000000 in
set_option maxRecDepth 100000 in
theorem c_X_about (l : Launch) {D : va_G} {z : Nat} {b : Nat → Nat} {C : fr_C} {H9 : Heap} (h9 : fr_W D hCl z b C H9) {cI cZ cJ cP cO : ClassId} {e0 mi : Nat} {pg gr lf n an lc po : Nat}  (h0 : C (0, 0) = some (.inr (0, fX b pg gr lf n an lc po)))  {mc : Int32} {dt tk n0 : Nat} {f : Nat → Option Nat} (h7 : C (0, 7) = some (.inr (4, [.ref dt, .int (nI tk), .int mc]))) (hls : lsAt C cO e0 dt tk n0 f) (htk : tk < 1000) {TA LG NM FF ML : Nat → Nat} {HV FO AB MD : Nat → Int32} {PQ : Nat → Option Nat} {FN : Nat → Nat → Int32} {GG : Nat → Nat → Nat} (htok : ∀ j, j < tk → xTok C cI f j (TA j) (LG j) (NM j) (FF j) (ML j) (HV j) (FO j) (AB j) (MD j) (PQ j) (FN j) (GG j)) (tok what : Int32) : Met l y_X_about w_X_about ({ frames := 3, cells := 0, slots := 0, locals := 64 }) (va_Pc [.ref (b 0), .int tok, .int what] (fr_G D hCl (hTy cI cZ cJ cP cO) z b C)) (va_Qi (fun (r : Int32) (u : Unit) => (¬ inN tok tk ∧ r = -1) ∨ (∃ j : Nat, j < tk ∧ tok = nI j ∧ ((what = 0 ∧ r = HV j) ∨ (what = 1 ∧ r = MD j) ∨ (what = 2 ∧ r = nI (ML j) - nI (FF j)) ∨ (¬ what = 0 ∧ ¬ what = 1 ∧ ¬ what = 2 ∧ r = -1)))) (fun u t => fr_G D hCl (hTy cI cZ cJ cP cO) z ((fun _ => b) u) ((fun _ => C) u) t) (fr_A z)) 0 0 (fr_A z) := by
  refine Met.ofW (cc := b_X_about) (maxL := 4) (ret := (some .int)) (by decide) rfl ?_
  intro p e s m args below meth c s₁ B hml hv
  obtain ⟨rfl, hE, hK⟩ := hv
  have hx := B.exec
  have hb := B.bytes
  have hr := B.returns
  have hts := atoms_spec (ws := w_X_about) B.pre
  have hT : ∀ w ∈ hw_tbl, w.before _ s = true := fun w h => hts w (List.mem_cons_of_mem _ h)
  have hown : s.vm.findClass "HarvestSteps" = some m.cls := findClass_of_methodNamed B.named
  have hlocks := B.notSynchronized
  have hS : va_S (fr_A z) s.heap s.heap [] := va_S.rf
  have hl := lv_entry ([.ref (b 0), .int tok, .int what]) (n := 4) (Nat.le_of_ble_eq_true rfl)
  rw [lg_entry_eq]
  generalize (lg_sl ([.ref (b 0), .int tok, .int what]) ++ List.replicate (4 - (lg_sl ([.ref (b 0), .int tok, .int what])).length) Slot.unset).toArray = ls at hl ⊢
  have hl : lv_has ls 4 [(0, .ref (b 0)), (1, .int tok), (2, .int what)] := hl
  refine lv_aload_n hx hb d_X_about_0 rfl (lv_at hl 0 rfl) ?_
  refine lv_iload_n hx hb d_X_about_1 rfl (lv_at hl 1 rfl) ?_
  refine fr_calli (va_runV (As := [.int tok]) (rest := []) ⟨hx, hb, hml, hown, hts⟩ (c_X_isToken l hE (pg := pg) (gr := gr) (lf := lf) (n := n) (an := an) (lc := lc) (po := po) h0 h7 (by omega) tok) (cwV 1 hts (hw_goodV kw_349 kw_351 kw_11 kw_21 kw_352) rfl rfl rfl (by decide +kernel) ⟨Nat.le_of_ble_eq_true rfl, Nat.le_of_ble_eq_true rfl⟩) ⟨fr_blind, fr_recv hK hE (0, 0) rfl h0 (ci := 0) rfl, fr_pre hE hK⟩ rfl rfl hl.1 rfl (lv_room (Nat.le_of_ble_eq_true rfl)) d_X_about_2 ⟨Nat.le_of_ble_eq_true rfl, Nat.le_of_ble_eq_true rfl⟩) hS (fun r_1 u_1 H locs w_1 hE hS => ?_)
  rcases w_1 with ⟨rfl, pw_1⟩ | ⟨rfl, pw_1⟩
  · skip
    obtain ⟨j_1, hj_1, rfl⟩ := pw_1
    obtain ⟨x1, x2, x3, x4, x5, x6, x7, x8⟩ := htok j_1 hj_1
    obtain ⟨hd, hkn, h2n, hn15⟩ : C (1, dt) = some (.inl (cO, n0, .inr (.inr (.inr (.inr f))))) ∧ tk ≤ n0 ∧ 2 ≤ n0 ∧ n0 ≤ 1500 := by rcases hls with ⟨_, y⟩ | ⟨y1, y2, y3, y4, _⟩; omega; exact ⟨y1, y2, y3, y4⟩
    refine lv_if_ne (tgt := 10) hx hb d_X_about_5 (by decide) (fun c_2 => ?_) (fun c_2 => ?_)
    · skip
      refine lv_aload_n hx hb d_X_about_10 rfl (lv_at hl 0 rfl) ?_
      refine fr_get (ci := 0) (Cn := hR_0) (T := hF_0) (N := 16) hx hb hT hi_0 hown hK hE (0, 0) rfl h0 rfl 12 (by decide) (hT _ kw_99) (fun _ h9 => h9) rfl d_X_about_11 ?_
      refine lv_iload_n hx hb d_X_about_14 rfl (lv_at hl 1 rfl) ?_
      refine fr_callq (va_runV (As := [.int (nI j_1)]) (rest := []) ⟨hx, hb, hml, hown, hts⟩ (c_A_get l hE h7 hd j_1 hj_1 hkn (by omega)) (cwV 1 hts (hw_goodV kw_353 kw_354 kw_355 kw_24 kw_356) rfl rfl rfl (by decide +kernel) ⟨Nat.le_of_ble_eq_true rfl, Nat.le_of_ble_eq_true rfl⟩) ⟨fr_blind, fr_recv hK hE (0, 7) rfl h7 (ci := 4) rfl, fr_pre hE hK⟩ rfl rfl hl.1 rfl (lv_room (Nat.le_of_ble_eq_true rfl)) d_X_about_15 ⟨Nat.le_of_ble_eq_true rfl, Nat.le_of_ble_eq_true rfl⟩) hS (fun r_3 u_3 H locs w_3 hE hS => ?_)
      obtain rfl : r_3 = some (TA j_1) := w_3.trans x1
      refine va_castS hx hb hown (hT _ kw_272) (hK.1 3 _ rfl).2 (fr_recv hK hE (1, TA j_1) rfl x2 (ci := 3) rfl) d_X_about_18 ?_
      refine lv_astore_n (lv' := [(3, .ref (TA j_1)), (0, .ref (b 0)), (1, .int (nI j_1)), (2, .int what)]) hx hb d_X_about_21 rfl hl (by decide) rfl (fun ls hl => ?_)
      refine lv_iload_n hx hb d_X_about_22 rfl (lv_at hl 3 rfl) ?_
      by_cases s_4_0 : what = 0
      · skip
        refine lv_tableIn (tgt := 48) (off := 25) hx hb d_X_about_23 (by rw [s_4_0]; decide) (by rw [s_4_0]; decide) (by rw [s_4_0]; rfl) (by decide) ?_
        refine lv_aload_n hx hb d_X_about_48 rfl (lv_at hl 0 rfl) ?_
        refine fr_get (ci := 3) (Cn := hR_3) (T := hF_3) (N := 4) hx hb hT hi_3 hown hK hE (1, TA j_1) rfl x2 rfl 0 (by decide) (hT _ kw_279) (fun _ h9 => h9) rfl d_X_about_49 ?_
        refine fr_get (ci := 1) (Cn := hR_1) (T := hF_1) (N := 4) hx hb hT hi_1 hown hK hE (1, LG j_1) rfl x3 rfl 0 (by decide) (hT _ kw_214) (fun _ h9 => h9) rfl d_X_about_52 ?_
        refine W.widen (k := 0) (n := 0) (Nat.le_of_ble_eq_true rfl) (Nat.le_of_ble_eq_true rfl) ?_
        exact W.iret (v := HV j_1) hx hb hr (fun t9 ht9 hW9 => ⟨⟨HV j_1, (), rfl, Or.inr ⟨j_1, hj_1, rfl, Or.inl ⟨s_4_0, rfl⟩⟩, ⟨by rw [ht9]; exact hE, va_K.moved hW9.alike hK⟩⟩, hS.F ht9⟩) hS.2.2 d_X_about_55
      by_cases s_4_1 : what = 1
      · skip
        refine lv_tableIn (tgt := 56) (off := 33) hx hb d_X_about_23 (by rw [s_4_1]; decide) (by rw [s_4_1]; decide) (by rw [s_4_1]; rfl) (by decide) ?_
        refine lv_aload_n hx hb d_X_about_56 rfl (lv_at hl 0 rfl) ?_
        refine fr_get (ci := 3) (Cn := hR_3) (T := hF_3) (N := 4) hx hb hT hi_3 hown hK hE (1, TA j_1) rfl x2 rfl 2 (by decide) (hT _ kw_283) (fun _ h9 => h9) rfl d_X_about_57 ?_
        refine W.widen (k := 0) (n := 0) (Nat.le_of_ble_eq_true rfl) (Nat.le_of_ble_eq_true rfl) ?_
        exact W.iret (v := MD j_1) hx hb hr (fun t9 ht9 hW9 => ⟨⟨MD j_1, (), rfl, Or.inr ⟨j_1, hj_1, rfl, Or.inr (Or.inl ⟨s_4_1, rfl⟩)⟩, ⟨by rw [ht9]; exact hE, va_K.moved hW9.alike hK⟩⟩, hS.F ht9⟩) hS.2.2 d_X_about_60
      by_cases s_4_2 : what = 2
      · skip
        refine lv_tableIn (tgt := 61) (off := 38) hx hb d_X_about_23 (by rw [s_4_2]; decide) (by rw [s_4_2]; decide) (by rw [s_4_2]; rfl) (by decide) ?_
        refine lv_aload_n hx hb d_X_about_61 rfl (lv_at hl 0 rfl) ?_
        refine fr_get (ci := 3) (Cn := hR_3) (T := hF_3) (N := 4) hx hb hT hi_3 hown hK hE (1, TA j_1) rfl x2 rfl 0 (by decide) (hT _ kw_279) (fun _ h9 => h9) rfl d_X_about_62 ?_
        refine fr_get (ci := 1) (Cn := hR_1) (T := hF_1) (N := 4) hx hb hT hi_1 hown hK hE (1, LG j_1) rfl x3 rfl 3 (by decide) (hT _ kw_220) (fun _ h9 => h9) rfl d_X_about_65 ?_
        refine fr_alen hx hb hK hE (1, NM j_1) 0 rfl x4 rfl d_X_about_68 ?_
        refine lv_aload_n hx hb d_X_about_69 rfl (lv_at hl 0 rfl) ?_
        refine fr_get (ci := 3) (Cn := hR_3) (T := hF_3) (N := 4) hx hb hT hi_3 hown hK hE (1, TA j_1) rfl x2 rfl 1 (by decide) (hT _ kw_281) (fun _ h9 => h9) rfl d_X_about_70 ?_
        refine lv_isub hx hb d_X_about_73 ?_
        refine W.widen (k := 0) (n := 0) (Nat.le_of_ble_eq_true rfl) (Nat.le_of_ble_eq_true rfl) ?_
        exact W.iret (v := (nI (ML j_1)) - (nI (FF j_1))) hx hb hr (fun t9 ht9 hW9 => ⟨⟨(nI (ML j_1)) - (nI (FF j_1)), (), rfl, Or.inr ⟨j_1, hj_1, rfl, Or.inr (Or.inr (Or.inl ⟨s_4_2, rfl⟩))⟩, ⟨by rw [ht9]; exact hE, va_K.moved hW9.alike hK⟩⟩, hS.F ht9⟩) hS.2.2 d_X_about_74
      refine lv_tableOut (tgt := 75) hx hb d_X_about_23 (by have a_0 := lv_neT s_4_0 (a := 0) rfl; have a_1 := lv_neT s_4_1 (a := 1) rfl; have a_2 := lv_neT s_4_2 (a := 2) rfl; omega) (by decide) ?_
      refine lv_iconst (v := (-1)) hx hb d_X_about_75 (by decide) ?_
      refine W.widen (k := 0) (n := 0) (Nat.le_of_ble_eq_true rfl) (Nat.le_of_ble_eq_true rfl) ?_
      exact W.iret (v := (-1)) hx hb hr (fun t9 ht9 hW9 => ⟨⟨(-1), (), rfl, Or.inr ⟨j_1, hj_1, rfl, Or.inr (Or.inr (Or.inr ⟨s_4_0, s_4_1, s_4_2, rfl⟩))⟩, ⟨by rw [ht9]; exact hE, va_K.moved hW9.alike hK⟩⟩, hS.F ht9⟩) hS.2.2 d_X_about_76
    · skip
      exact absurd c_2 (by decide)
  · skip
    refine lv_if_ne (tgt := 10) hx hb d_X_about_5 (by decide) (fun c_5 => ?_) (fun c_5 => ?_)
    · skip
      exact absurd c_5 (by decide)
    · skip
      refine lv_iconst (v := (-1)) hx hb d_X_about_8 (by decide) ?_
      refine W.widen (k := 0) (n := 0) (Nat.le_of_ble_eq_true rfl) (Nat.le_of_ble_eq_true rfl) ?_
      exact W.iret (v := (-1)) hx hb hr (fun t9 ht9 hW9 => ⟨⟨(-1), (), rfl, Or.inl ⟨pw_1, rfl⟩, ⟨by rw [ht9]; exact hE, va_K.moved hW9.alike hK⟩⟩, hS.F ht9⟩) hS.2.2 d_X_about_9
set_option maxHeartbeats 4000000 in
set_option maxRecDepth 100000 in
theorem c_X_resume (l : Launch) {D : va_G} {z : Nat} {b : Nat → Nat} {C : fr_C} {H9 : Heap} (h9 : fr_W D hCl z b C H9) {cI cZ cJ cP cO : ClassId} {e0 mi : Nat} {pg gr lf n an lc po : Nat} {dy : Nat → Int32} {dl : Nat → Int32} {ac : Nat → Int32} {lp : Nat → Option Nat} {cs : Nat → Int32} (h0 : C (0, 0) = some (.inr (0, fX b pg gr lf n an lc po))) (h3 : C (0, 3) = some (.inl (cI, 150, .inl dy))) (h4 : C (0, 4) = some (.inl (cZ, 150, .inl dl))) (h5 : C (0, 5) = some (.inl (cI, 150, .inl ac))) (h8 : C (0, 8) = some (.inl (cP, 10, .inr (.inr (.inr (.inr lp)))))) (h9a : C (0, 9) = some (.inl (cI, 10, .inl cs))) {mc : Int32} {dt tk n0 : Nat} {f : Nat → Option Nat} (h7 : C (0, 7) = some (.inr (4, [.ref dt, .int (nI tk), .int mc]))) (hls : lsAt C cO e0 dt tk n0 f) (htk : tk < 1000) {TA LG NM FF ML : Nat → Nat} {HV FO AB MD : Nat → Int32} {PQ : Nat → Option Nat} {FN : Nat → Nat → Int32} {GG : Nat → Nat → Nat} (htok : ∀ j, j < tk → xTok C cI f j (TA j) (LG j) (NM j) (FF j) (ML j) (HV j) (FO j) (AB j) (MD j) (PQ j) (FN j) (GG j)) (hpg : pg ≤ 50) (hdl : ∀ j, vp_nar .boolean (dl j) = dl j) (h tok t : Int32) : Met l y_X_resume w_X_resume ({ frames := 8, cells := 6, slots := 2410, locals := 198 }) (va_Pc [.ref (b 0), .int h, .int tok, .int t] (fr_GX e0 mi D hCl (hTy cI cZ cJ cP cO) z b C)) (va_Qi (fun (r : Int32) (u : (Nat → Nat) × fr_C) => (((¬ inN h 10 ∧ r = -1) ∨ (inN h 10 ∧ ¬ inN t 1000000001 ∧ r = -2) ∨ (inN h 10 ∧ inN t 1000000001 ∧ ¬ inN tok tk ∧ r = -15) ∨ (∃ hh j : Nat, hh < 10 ∧ h = nI hh ∧ inN t 1000000001 ∧ j < tk ∧ tok = nI j ∧ (¬ HV j = h ∨ ¬ t ≤ MD j + nI lf) ∧ r = -15)) ∧ u = (b, C)) ∨ (∃ hh j : Nat, hh < 10 ∧ h = nI hh ∧ inN t 1000000001 ∧ j < tk ∧ tok = nI j ∧ HV j = h ∧ t ≤ MD j + nI lf ∧ ((∃ (pa : Nat) (fo' : Int32) (pn pd pz : Nat) (ct nt : Int32), PQ j = some pa ∧ C (1, pa) = some (.inr (2, [.int fo', .ref pn, .ref pd, .ref pz, .int ct, .int nt])) ∧ r = ct ∧ u = (b, xAns C cI cP lp cs hh pa ct)) ∨ (PQ j = none ∧ ∃ (pa : Nat) (C1 : fr_C), xPage C C1 b u.1 cI cZ cO pg gr lf n an lc po (FO j) (LG j) (FF j) ((if FF j + pg < ML j then FF j + pg else ML j) - FF j) t (kp (keepB ac (AB j)) (GG j) (FF j) ((if FF j + pg < ML j then FF j + pg else ML j) - FF j)) (FF j + ((if FF j + pg < ML j then FF j + pg else ML j) - FF j) < ML j) dy dl mc dt tk n0 f pa ∧ (∀ i, i < 20 ∨ 28 ≤ i → u.1 i = b i) ∧ r = nI (kp (keepB ac (AB j)) (GG j) (FF j) ((if FF j + pg < ML j then FF j + pg else ML j) - FF j)).length ∧ u.2 = xAns (fr_up C1 (1, TA j) (.inr (3, [.ref (LG j), .int (nI (FF j)), .int (MD j), .ref pa]))) cI cP lp cs hh pa (nI (kp (keepB ac (AB j)) (GG j) (FF j) ((if FF j + pg < ML j then FF j + pg else ML j) - FF j)).length))))) (fun u t => fr_G D hCl (hTy cI cZ cJ cP cO) z ((fun u => u.1) u) ((fun u => u.2) u) t) (fr_A z)) 6 2410 (fr_A z) := by
  refine Met.ofW (cc := b_X_resume) (maxL := 5) (ret := (some .int)) (by decide) rfl ?_
  intro p e s m args below meth c s₁ B hml hv
  obtain ⟨rfl, ⟨hE, hK⟩, hX⟩ := hv
  have hx := B.exec
  have hb := B.bytes
  have hr := B.returns
  have hts := atoms_spec (ws := w_X_resume) B.pre
  have hT : ∀ w ∈ hw_tbl, w.before _ s = true := fun w h => hts w (List.mem_cons_of_mem _ h)
  have hown : s.vm.findClass "HarvestSteps" = some m.cls := findClass_of_methodNamed B.named
  have hlocks := B.notSynchronized
  have hS : va_S (fr_A z) s.heap s.heap [] := va_S.rf
  have hl := lv_entry ([.ref (b 0), .int h, .int tok, .int t]) (n := 5) (Nat.le_of_ble_eq_true rfl)
  rw [lg_entry_eq]
  generalize (lg_sl ([.ref (b 0), .int h, .int tok, .int t]) ++ List.replicate (5 - (lg_sl ([.ref (b 0), .int h, .int tok, .int t])).length) Slot.unset).toArray = ls at hl ⊢
  have hl : lv_has ls 5 [(0, .ref (b 0)), (1, .int h), (2, .int tok), (3, .int t)] := hl
  refine lv_iload_n hx hb d_X_resume_0 rfl (lv_at hl 1 rfl) ?_
  refine fr_calli (va_runS (As := [.int h]) (rest := []) ⟨hx, hb, hml, hown, hts⟩ (c_X_isHarvester l hE h) (va_cwS 1 hts (hw_goodS kw_174 kw_175 kw_21 kw_176) rfl rfl rfl (by decide +kernel) ⟨Nat.le_of_ble_eq_true rfl, Nat.le_of_ble_eq_true rfl⟩) ⟨fr_blind, fr_pre hE hK⟩ rfl rfl hl.1 rfl (lv_room (Nat.le_of_ble_eq_true rfl)) d_X_resume_1 ⟨Nat.le_of_ble_eq_true rfl, Nat.le_of_ble_eq_true rfl⟩) hS (fun r_1 u_1 H locs w_1 hE hS => ?_)
  rcases w_1 with ⟨rfl, pw_1⟩ | ⟨rfl, pw_1⟩
  · skip
    obtain ⟨j_1, hj_1, rfl⟩ := pw_1
    refine lv_if_ne (tgt := 9) hx hb d_X_resume_4 (by decide) (fun c_2 => ?_) (fun c_2 => ?_)
    · skip
      refine lv_iload_n hx hb d_X_resume_9 rfl (lv_at hl 3 rfl) ?_
      refine fr_calli (va_runS (As := [.int t]) (rest := []) ⟨hx, hb, hml, hown, hts⟩ (c_X_isTime l hE t) (va_cwS 1 hts (hw_goodS kw_177 kw_178 kw_21 kw_179) rfl rfl rfl (by decide +kernel) ⟨Nat.le_of_ble_eq_true rfl, Nat.le_of_ble_eq_true rfl⟩) ⟨fr_blind, fr_pre hE hK⟩ rfl rfl hl.1 rfl (lv_room (Nat.le_of_ble_eq_true rfl)) d_X_resume_10 ⟨Nat.le_of_ble_eq_true rfl, Nat.le_of_ble_eq_true rfl⟩) hS (fun r_3 u_3 H locs w_3 hE hS => ?_)
      rcases w_3 with ⟨rfl, pw_3⟩ | ⟨rfl, pw_3⟩
      · skip
        refine lv_if_ne (tgt := 19) hx hb d_X_resume_13 (by decide) (fun c_4 => ?_) (fun c_4 => ?_)
        · skip
          refine lv_aload_n hx hb d_X_resume_19 rfl (lv_at hl 0 rfl) ?_
          refine lv_iload_n hx hb d_X_resume_20 rfl (lv_at hl 2 rfl) ?_
          refine fr_calli (va_runV (As := [.int tok]) (rest := []) ⟨hx, hb, hml, hown, hts⟩ (c_X_isToken l hE (pg := pg) (gr := gr) (lf := lf) (n := n) (an := an) (lc := lc) (po := po) h0 h7 (by omega) tok) (cwV 1 hts (hw_goodV kw_349 kw_351 kw_11 kw_21 kw_352) rfl rfl rfl (by decide +kernel) ⟨Nat.le_of_ble_eq_true rfl, Nat.le_of_ble_eq_true rfl⟩) ⟨fr_blind, fr_recv hK hE (0, 0) rfl h0 (ci := 0) rfl, fr_pre hE hK⟩ rfl rfl hl.1 rfl (lv_room (Nat.le_of_ble_eq_true rfl)) d_X_resume_21 ⟨Nat.le_of_ble_eq_true rfl, Nat.le_of_ble_eq_true rfl⟩) hS (fun r_5 u_5 H locs w_5 hE hS => ?_)
          rcases w_5 with ⟨rfl, pw_5⟩ | ⟨rfl, pw_5⟩
          · skip
            obtain ⟨j_2, hj_2, rfl⟩ := pw_5
            obtain ⟨x1, x2, x3, x4, x5, x6, x7, x8⟩ := htok j_2 hj_2
            obtain ⟨hd, hkn, h2n, hn15⟩ : C (1, dt) = some (.inl (cO, n0, .inr (.inr (.inr (.inr f))))) ∧ tk ≤ n0 ∧ 2 ≤ n0 ∧ n0 ≤ 1500 := by rcases hls with ⟨_, y⟩ | ⟨y1, y2, y3, y4, _⟩; omega; exact ⟨y1, y2, y3, y4⟩
            refine lv_if_ne (tgt := 30) hx hb d_X_resume_24 (by decide) (fun c_6 => ?_) (fun c_6 => ?_)
            · skip
              refine lv_aload_n hx hb d_X_resume_30 rfl (lv_at hl 0 rfl) ?_
              refine fr_get (ci := 0) (Cn := hR_0) (T := hF_0) (N := 16) hx hb hT hi_0 hown hK hE (0, 0) rfl h0 rfl 12 (by decide) (hT _ kw_99) (fun _ h9 => h9) rfl d_X_resume_31 ?_
              refine lv_iload_n hx hb d_X_resume_34 rfl (lv_at hl 2 rfl) ?_
              refine fr_callq (va_runV (As := [.int (nI j_2)]) (rest := []) ⟨hx, hb, hml, hown, hts⟩ (c_A_get l hE h7 hd j_2 hj_2 hkn (by omega)) (cwV 1 hts (hw_goodV kw_353 kw_354 kw_355 kw_24 kw_356) rfl rfl rfl (by decide +kernel) ⟨Nat.le_of_ble_eq_true rfl, Nat.le_of_ble_eq_true rfl⟩) ⟨fr_blind, fr_recv hK hE (0, 7) rfl h7 (ci := 4) rfl, fr_pre hE hK⟩ rfl rfl hl.1 rfl (lv_room (Nat.le_of_ble_eq_true rfl)) d_X_resume_35 ⟨Nat.le_of_ble_eq_true rfl, Nat.le_of_ble_eq_true rfl⟩) hS (fun r_7 u_7 H locs w_7 hE hS => ?_)
              obtain rfl : r_7 = some (TA j_2) := w_7.trans x1
              refine va_castS hx hb hown (hT _ kw_272) (hK.1 3 _ rfl).2 (fr_recv hK hE (1, TA j_2) rfl x2 (ci := 3) rfl) d_X_resume_38 ?_
              refine lv_astore (lv' := [(4, .ref (TA j_2)), (0, .ref (b 0)), (1, .int (nI j_1)), (2, .int (nI j_2)), (3, .int t)]) hx hb d_X_resume_41 hl (by decide) rfl (fun ls hl => ?_)
              refine lv_aload hx hb d_X_resume_43 (lv_at hl 0 rfl) ?_
              refine fr_get (ci := 3) (Cn := hR_3) (T := hF_3) (N := 4) hx hb hT hi_3 hown hK hE (1, TA j_2) rfl x2 rfl 0 (by decide) (hT _ kw_279) (fun _ h9 => h9) rfl d_X_resume_45 ?_
              refine fr_get (ci := 1) (Cn := hR_1) (T := hF_1) (N := 4) hx hb hT hi_1 hown hK hE (1, LG j_2) rfl x3 rfl 0 (by decide) (hT _ kw_214) (fun _ h9 => h9) rfl d_X_resume_48 ?_
              refine lv_iload_n hx hb d_X_resume_51 rfl (lv_at hl 2 rfl) ?_
              refine lv_icmp_ne (tgt := 69) hx hb d_X_resume_52 (by decide) (fun c_8 => ?_) (fun c_8 => ?_)
              · skip
                refine lv_bipush (v := (-15)) hx hb d_X_resume_69 (by decide) ?_
                refine W.widen (k := 6) (n := 2410) (Nat.le_of_ble_eq_true rfl) (Nat.le_of_ble_eq_true rfl) ?_
                exact W.iret (v := (-15)) hx hb hr (fun t9 ht9 hW9 => ⟨⟨(-15), (b, C), rfl, Or.inl ⟨Or.inr (Or.inr (Or.inr ⟨j_1, j_2, hj_1, rfl, pw_3, hj_2, rfl, Or.inl c_8, rfl⟩)), rfl⟩, ⟨by rw [ht9]; exact hE, va_K.moved hW9.alike hK⟩⟩, hS.F ht9⟩) hS.2.2 d_X_resume_71
              · skip
                refine lv_iload_n hx hb d_X_resume_55 rfl (lv_at hl 4 rfl) ?_
                refine lv_aload hx hb d_X_resume_56 (lv_at hl 0 rfl) ?_
                refine fr_get (ci := 3) (Cn := hR_3) (T := hF_3) (N := 4) hx hb hT hi_3 hown hK hE (1, TA j_2) rfl x2 rfl 2 (by decide) (hT _ kw_283) (fun _ h9 => h9) rfl d_X_resume_58 ?_
                refine lv_aload_n hx hb d_X_resume_61 rfl (lv_at hl 1 rfl) ?_
                refine fr_get (ci := 0) (Cn := hR_0) (T := hF_0) (N := 16) hx hb hT hi_0 hown hK hE (0, 0) rfl h0 rfl 2 (by decide) (hT _ kw_89) (fun _ h9 => h9) rfl d_X_resume_62 ?_
                refine lv_iadd hx hb d_X_resume_65 ?_
                refine lv_icmp_le (tgt := 72) hx hb d_X_resume_66 (by decide) (fun c_9 => ?_) (fun c_9 => ?_)
                · skip
                  cases hpq : PQ j_2 with
                  | none =>
                    rw [hpq] at x2
                    replace x2 : C (1, TA j_2) = some (.inr (3, [.ref (LG j_2), .int (nI (FF j_2)), .int (MD j_2), .null])) := x2
                    refine lv_aload hx hb d_X_resume_72 (lv_at hl 0 rfl) ?_
                    refine fr_get (ci := 3) (Cn := hR_3) (T := hF_3) (N := 4) hx hb hT hi_3 hown hK hE (1, TA j_2) rfl x2 rfl 3 (by decide) (hT _ kw_285) (fun _ h9 => h9) rfl d_X_resume_74 ?_
                    refine lv_ifnonnullN hx hb d_X_resume_77 ?_
                    refine lv_aload hx hb d_X_resume_80 (lv_at hl 0 rfl) ?_
                    refine lv_aload_n hx hb d_X_resume_82 rfl (lv_at hl 1 rfl) ?_
                    refine lv_aload hx hb d_X_resume_83 (lv_at hl 0 rfl) ?_
                    refine fr_get (ci := 3) (Cn := hR_3) (T := hF_3) (N := 4) hx hb hT hi_3 hown hK hE (1, TA j_2) rfl x2 rfl 0 (by decide) (hT _ kw_279) (fun _ h9 => h9) rfl d_X_resume_85 ?_
                    refine lv_aload hx hb d_X_resume_88 (lv_at hl 0 rfl) ?_
                    refine fr_get (ci := 3) (Cn := hR_3) (T := hF_3) (N := 4) hx hb hT hi_3 hown hK hE (1, TA j_2) rfl x2 rfl 1 (by decide) (hT _ kw_281) (fun _ h9 => h9) rfl d_X_resume_90 ?_
                    refine lv_iload_n hx hb d_X_resume_93 rfl (lv_at hl 4 rfl) ?_
                    refine fr_callq (va_runV (As := [.ref (LG j_2), .int (nI (FF j_2)), .int t]) (rest := [.ref (TA j_2)]) ⟨hx, hb, hml, hown, hts⟩ (c_X_makePage l hE (pg := pg) (gr := gr) (lf := lf) (n := n) (an := an) (lc := lc) (po := po) h0 h3 h4 h5 x3 x4 h7 hls (FF j_2) ((if FF j_2 + pg < ML j_2 then FF j_2 + pg else ML j_2) - FF j_2) t (GG j_2) htk hpg x5 x6 (by split <;> omega) hdl x7) (cwV 3 hts (hw_goodV kw_230 kw_232 kw_6 kw_21 kw_233) rfl rfl rfl (by decide +kernel) ⟨Nat.le_of_ble_eq_true rfl, Nat.le_of_ble_eq_true rfl⟩) ⟨fr_blindX, fr_recv hK hE (0, 0) rfl h0 (ci := 0) rfl, fr_preX hE hK hX hS⟩ rfl rfl hl.1 rfl (lv_room (Nat.le_of_ble_eq_true rfl)) d_X_resume_94 ⟨Nat.le_of_ble_eq_true rfl, Nat.le_of_ble_eq_true rfl⟩) hS (fun r_10 u_10 H locs w_10 hE hS => ?_)
                    obtain ⟨b9, C9⟩ := u_10
                    obtain ⟨pa9, rfl, ⟨p0, p1, p2, p3, p4, p7, hb9⟩, hPg⟩ := w_10
                    replace hb9 : b9 = fr_ub (fr_ub (fr_ub (fr_ub (fr_ub (fr_ub b 20 p0) 21 p1) 22 p2) 23 p3) 24 p4) 27 p7 := hb9
                    subst hb9
                    obtain ⟨pn, pd, pz, nt9, fn9, fd9, fz9, y1, -, -, -, -, -, y0, ypl, yfx, hbb, ynone, -⟩ := id hPg
                    replace y1 : C9 (1, pa9) = some (.inr (2, [.int (FO j_2), .ref pn, .ref pd, .ref pz, .int (nI (kp (keepB ac (AB j_2)) (GG j_2) (FF j_2) ((if FF j_2 + pg < ML j_2 then FF j_2 + pg else ML j_2) - FF j_2)).length), .int nt9])) := y1
                    replace y0 : C9 (0, 0) = some (.inr (0, fX b pg gr lf n an lc (po + (((if FF j_2 + pg < ML j_2 then FF j_2 + pg else ML j_2) - FF j_2) - (kp (keepB ac (AB j_2)) (GG j_2) (FF j_2) ((if FF j_2 + pg < ML j_2 then FF j_2 + pg else ML j_2) - FF j_2)).length)))) := y0
                    have y8 : C9 (0, 8) = some (.inl (cP, 10, .inr (.inr (.inr (.inr lp))))) := (yfx 8 (by decide) (by decide) (by decide)).trans h8
                    have y9 : C9 (0, 9) = some (.inl (cI, 10, .inl cs)) := (yfx 9 (by decide) (by decide) (by decide)).trans h9a
                    have yta : C9 (1, TA j_2) = some (.inr (3, [.ref (LG j_2), .int (nI (FF j_2)), .int (MD j_2), .null])) := ypl _ _ x2 (fun q => by rw [q, hd] at x2; cases x2)
                    have hne : pa9 ≠ TA j_2 := fun q => by replace ynone : C (1, pa9) = none := ynone; rw [q, x2] at ynone; cases ynone
                    refine fr_put (ci := 3) (v := .ref pa9) (ty := (.object "HarvestSteps$Page")) (Cn := hR_3) (T := hF_3) (N := 4) hx hb hT hi_3 hy_3 ho_3 hn_3 hown hK hE hS (1, TA j_2) rfl yta rfl 3 (by decide) (hT _ kw_285) (fun _ h9 => h9) rfl (by decide +kernel) rfl rfl (Nat.le_of_ble_eq_true rfl) d_X_resume_97 (fun H locs hE hS => ?_)
                    refine lv_aload_n hx hb d_X_resume_100 rfl (lv_at hl 1 rfl) ?_
                    refine lv_iload_n hx hb d_X_resume_101 rfl (lv_at hl 2 rfl) ?_
                    refine lv_aload hx hb d_X_resume_102 (lv_at hl 0 rfl) ?_
                    refine fr_get (ci := 3) (Cn := hR_3) (T := hF_3) (N := 4) hx hb hT hi_3 hown hK hE (1, TA j_2) rfl (fr_up_self _ _ _) rfl 3 (by decide) (hT _ kw_285) (fun _ h9 => h9) rfl d_X_resume_104 ?_
                    refine fr_calli (va_runV (As := [.int (nI j_1), .ref pa9]) (rest := []) ⟨hx, hb, hml, hown, hts⟩ (c_X_answer l hE (pg := pg) (gr := gr) (lf := lf) (n := n) (an := an) (lc := lc) (po := po + (((if FF j_2 + pg < ML j_2 then FF j_2 + pg else ML j_2) - FF j_2) - (kp (keepB ac (AB j_2)) (GG j_2) (FF j_2) ((if FF j_2 + pg < ML j_2 then FF j_2 + pg else ML j_2) - FF j_2)).length)) y0 y8 y9 pa9 ((fr_up_ne (fun q => hne (congrArg Prod.snd q))).trans y1) j_1 hj_1) (cwV 2 hts (hw_goodV kw_341 kw_343 kw_10 kw_21 kw_344) rfl rfl rfl (by decide +kernel) ⟨Nat.le_of_ble_eq_true rfl, Nat.le_of_ble_eq_true rfl⟩) ⟨fr_blind, fr_recv hK hE (0, 0) rfl y0 (ci := 0) rfl, fr_pre hE hK⟩ rfl rfl hl.1 rfl (lv_room (Nat.le_of_ble_eq_true rfl)) d_X_resume_107 ⟨Nat.le_of_ble_eq_true rfl, Nat.le_of_ble_eq_true rfl⟩) hS (fun r_11 u_11 H locs w_11 hE hS => ?_)
                    obtain rfl : r_11 = nI (kp (keepB ac (AB j_2)) (GG j_2) (FF j_2) ((if FF j_2 + pg < ML j_2 then FF j_2 + pg else ML j_2) - FF j_2)).length := w_11
                    refine W.widen (k := 6) (n := 2410) (Nat.le_of_ble_eq_true rfl) (Nat.le_of_ble_eq_true rfl) ?_
                    exact W.iret (v := nI (kp (keepB ac (AB j_2)) (GG j_2) (FF j_2) ((if FF j_2 + pg < ML j_2 then FF j_2 + pg else ML j_2) - FF j_2)).length) hx hb hr (fun t9 ht9 hW9 => ⟨⟨nI (kp (keepB ac (AB j_2)) (GG j_2) (FF j_2) ((if FF j_2 + pg < ML j_2 then FF j_2 + pg else ML j_2) - FF j_2)).length, (_, xAns (fr_up C9 (1, TA j_2) (.inr (3, [.ref (LG j_2), .int (nI (FF j_2)), .int (MD j_2), .ref pa9]))) cI cP lp cs j_1 pa9 (nI (kp (keepB ac (AB j_2)) (GG j_2) (FF j_2) ((if FF j_2 + pg < ML j_2 then FF j_2 + pg else ML j_2) - FF j_2)).length)), rfl, Or.inr ⟨j_1, j_2, hj_1, rfl, pw_3, hj_2, rfl, c_8, c_9, Or.inr ⟨hpq, pa9, C9, hPg, hbb, rfl, rfl⟩⟩, ⟨by rw [ht9]; exact hE, va_K.moved hW9.alike hK⟩⟩, hS.F ht9⟩) hS.2.2 d_X_resume_110
                  | some pa9 =>
                    rw [hpq] at x2
                    replace x2 : C (1, TA j_2) = some (.inr (3, [.ref (LG j_2), .int (nI (FF j_2)), .int (MD j_2), .ref pa9])) := x2
                    obtain ⟨fo9, pn, pd, pz, ct, nt, hpa⟩ := x8 pa9 hpq
                    refine lv_aload hx hb d_X_resume_72 (lv_at hl 0 rfl) ?_
                    refine fr_get (ci := 3) (Cn := hR_3) (T := hF_3) (N := 4) hx hb hT hi_3 hown hK hE (1, TA j_2) rfl x2 rfl 3 (by decide) (hT _ kw_285) (fun _ h9 => h9) rfl d_X_resume_74 ?_
                    refine lv_ifnonnull (tgt := 100) hx hb d_X_resume_77 (by decide) ?_
                    refine lv_aload_n hx hb d_X_resume_100 rfl (lv_at hl 1 rfl) ?_
                    refine lv_iload_n hx hb d_X_resume_101 rfl (lv_at hl 2 rfl) ?_
                    refine lv_aload hx hb d_X_resume_102 (lv_at hl 0 rfl) ?_
                    refine fr_get (ci := 3) (Cn := hR_3) (T := hF_3) (N := 4) hx hb hT hi_3 hown hK hE (1, TA j_2) rfl x2 rfl 3 (by decide) (hT _ kw_285) (fun _ h9 => h9) rfl d_X_resume_104 ?_
                    refine fr_calli (va_runV (As := [.int (nI j_1), .ref pa9]) (rest := []) ⟨hx, hb, hml, hown, hts⟩ (c_X_answer l hE (pg := pg) (gr := gr) (lf := lf) (n := n) (an := an) (lc := lc) (po := po) h0 h8 h9a pa9 hpa j_1 hj_1) (cwV 2 hts (hw_goodV kw_341 kw_343 kw_10 kw_21 kw_344) rfl rfl rfl (by decide +kernel) ⟨Nat.le_of_ble_eq_true rfl, Nat.le_of_ble_eq_true rfl⟩) ⟨fr_blind, fr_recv hK hE (0, 0) rfl h0 (ci := 0) rfl, fr_pre hE hK⟩ rfl rfl hl.1 rfl (lv_room (Nat.le_of_ble_eq_true rfl)) d_X_resume_107 ⟨Nat.le_of_ble_eq_true rfl, Nat.le_of_ble_eq_true rfl⟩) hS (fun r_12 u_12 H locs w_12 hE hS => ?_)
                    refine W.widen (k := 6) (n := 2410) (Nat.le_of_ble_eq_true rfl) (Nat.le_of_ble_eq_true rfl) ?_
                    exact W.iret (v := r_12) hx hb hr (fun t9 ht9 hW9 => ⟨⟨r_12, (b, xAns C cI cP lp cs j_1 pa9 ct), rfl, Or.inr ⟨j_1, j_2, hj_1, rfl, pw_3, hj_2, rfl, c_8, c_9, Or.inl ⟨pa9, fo9, pn, pd, pz, ct, nt, hpq, hpa, w_12, rfl⟩⟩, ⟨by rw [ht9]; exact hE, va_K.moved hW9.alike hK⟩⟩, hS.F ht9⟩) hS.2.2 d_X_resume_110
                · skip
                  refine lv_bipush (v := (-15)) hx hb d_X_resume_69 (by decide) ?_
                  refine W.widen (k := 6) (n := 2410) (Nat.le_of_ble_eq_true rfl) (Nat.le_of_ble_eq_true rfl) ?_
                  exact W.iret (v := (-15)) hx hb hr (fun t9 ht9 hW9 => ⟨⟨(-15), (b, C), rfl, Or.inl ⟨Or.inr (Or.inr (Or.inr ⟨j_1, j_2, hj_1, rfl, pw_3, hj_2, rfl, Or.inr c_9, rfl⟩)), rfl⟩, ⟨by rw [ht9]; exact hE, va_K.moved hW9.alike hK⟩⟩, hS.F ht9⟩) hS.2.2 d_X_resume_71
            · skip
              exact absurd c_6 (by decide)
          · skip
            refine lv_if_ne (tgt := 30) hx hb d_X_resume_24 (by decide) (fun c_13 => ?_) (fun c_13 => ?_)
            · skip
              exact absurd c_13 (by decide)
            · skip
              refine lv_bipush (v := (-15)) hx hb d_X_resume_27 (by decide) ?_
              refine W.widen (k := 6) (n := 2410) (Nat.le_of_ble_eq_true rfl) (Nat.le_of_ble_eq_true rfl) ?_
              exact W.iret (v := (-15)) hx hb hr (fun t9 ht9 hW9 => ⟨⟨(-15), (b, C), rfl, Or.inl ⟨Or.inr (Or.inr (Or.inl ⟨⟨j_1, hj_1, rfl⟩, pw_3, pw_5, rfl⟩)), rfl⟩, ⟨by rw [ht9]; exact hE, va_K.moved hW9.alike hK⟩⟩, hS.F ht9⟩) hS.2.2 d_X_resume_29
        · skip
          exact absurd c_4 (by decide)
      · skip
        refine lv_if_ne (tgt := 19) hx hb d_X_resume_13 (by decide) (fun c_14 => ?_) (fun c_14 => ?_)
        · skip
          exact absurd c_14 (by decide)
        · skip
          refine lv_bipush (v := (-2)) hx hb d_X_resume_16 (by decide) ?_
          refine W.widen (k := 6) (n := 2410) (Nat.le_of_ble_eq_true rfl) (Nat.le_of_ble_eq_true rfl) ?_
          exact W.iret (v := (-2)) hx hb hr (fun t9 ht9 hW9 => ⟨⟨(-2), (b, C), rfl, Or.inl ⟨Or.inr (Or.inl ⟨⟨j_1, hj_1, rfl⟩, pw_3, rfl⟩), rfl⟩, ⟨by rw [ht9]; exact hE, va_K.moved hW9.alike hK⟩⟩, hS.F ht9⟩) hS.2.2 d_X_resume_18
    · skip
      exact absurd c_2 (by decide)
  · skip
    refine lv_if_ne (tgt := 9) hx hb d_X_resume_4 (by decide) (fun c_15 => ?_) (fun c_15 => ?_)
    · skip
      exact absurd c_15 (by decide)
    · skip
      refine lv_iconst (v := (-1)) hx hb d_X_resume_7 (by decide) ?_
      refine W.widen (k := 6) (n := 2410) (Nat.le_of_ble_eq_true rfl) (Nat.le_of_ble_eq_true rfl) ?_
      exact W.iret (v := (-1)) hx hb hr (fun t9 ht9 hW9 => ⟨⟨(-1), (b, C), rfl, Or.inl ⟨Or.inl ⟨pw_1, rfl⟩, rfl⟩, ⟨by rw [ht9]; exact hE, va_K.moved hW9.alike hK⟩⟩, hS.F ht9⟩) hS.2.2 d_X_resume_8
