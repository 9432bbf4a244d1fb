theorem fr_W.ret1 {D : va_G} {cl : List vw_C} {z : Nat} {b : Nat → Nat} {C : fr_C} {H : Heap} (i : Nat) {e : va_E} (h : fr_W D cl z b C H) (he : C (0, i) = some e) : ∃ C' : fr_C, fr_W D cl z b C' H ∧ C' (1, b i) = some e ∧ (∀ a e', C (1, a) = some e' → C' (1, a) = some e') ∧ (∀ j, j ≠ i → C' (0, j) = C (0, j)) ∧ C (1, b i) = none := by
  refine ⟨_, h.retire i he, fr_up_self _ _ _, fun a e' ha => ?_, fun j hj => ?_, ?_⟩
  · rw [fr_up_ne (fun q => h.ne_pool ha he (congrArg Prod.snd q)), fr_rm_ne (fun q => absurd (show (1 : Nat) = 0 from congrArg Prod.fst q) (by decide))]
    exact ha
  · rw [fr_up_ne (fun q => absurd (show (0 : Nat) = 1 from congrArg Prod.fst q) (by decide)), fr_rm_ne (fun q => hj (congrArg Prod.snd q))]
  · cases hc : C (1, b i) with
    | none => rfl
    | some e9 => exact absurd rfl (h.ne_pool hc he)
/-- what makePage does: a page at pa, of m places from F on, K of them kept; tm: there is more behind it, and a token leads there -/
def xPage (C C' : fr_C) (b b' : Nat → Nat) (cI cZ cO : ClassId) (pg gr lf n an lc po : Nat) (fo : Int32) (lg F m : Nat) (t : Int32) (K : List Nat) (tm : Prop) (dy dl : Nat → Int32) (mc : Int32) (dt tk n0 : Nat) (f : Nat → Option Nat) (pa : Nat) : Prop :=
  ∃ (pn pd pz : Nat) (nt : Int32) (fn fd fz : Nat → Int32), C' (1, pa) = some (.inr (2, [.int fo, .ref pn, .ref pd, .ref pz, .int (nI K.length), .int nt])) ∧ C' (1, pn) = some (.inl (cI, m, .inl fn)) ∧ C' (1, pd) = some (.inl (cI, m, .inl fd)) ∧ C' (1, pz) = some (.inl (cZ, m, .inl fz)) ∧ rowsOf K 0 dy dl (fun _ => 0) (fun _ => 0) (fun _ => 0) fn fd fz ∧ K.length ≤ m ∧
  C' (0, 0) = some (.inr (0, fX b pg gr lf n an lc (po + (m - K.length)))) ∧ (∀ a e, C (1, a) = some e → a ≠ dt → C' (1, a) = some e) ∧ (∀ i, i ≠ 0 → i ≠ 7 → i < 20 ∨ 28 ≤ i → C' (0, i) = C (0, i)) ∧ (∀ i, i < 20 ∨ 28 ≤ i → b' i = b i) ∧ C (1, pa) = none ∧
  ((tm ∧ nt = nI tk ∧ ∃ (ta dt' n' : Nat) (f' : Nat → Option Nat), C' (1, ta) = some (.inr (3, [.ref lg, .int (nI (F + m)), .int t, .null])) ∧ C' (0, 7) = some (.inr (4, [.ref dt', .int (nI (tk + 1)), .int (mc + 1)])) ∧ C' (1, dt') = some (.inl (cO, n', .inr (.inr (.inr (.inr f'))))) ∧ tk + 1 ≤ n' ∧ 2 ≤ n' ∧ n' ≤ 1500 ∧ f' tk = some ta ∧ (∀ i, i < tk → f' i = f i) ∧ (∀ i, tk < i → f' i = none) ∧ (dt' = dt ∨ C (1, dt') = none) ∧ C (1, ta) = none) ∨
   (¬ tm ∧ nt = -1 ∧ C' (0, 7) = some (.inr (4, [.ref dt, .int (nI tk), .int mc])) ∧ ∀ e, C (1, dt) = some e → C' (1, dt) = some e))
set_option maxHeartbeats 4000000 in
set_option maxRecDepth 100000 in
theorem c_X_makePage (l : Launch) {D : va_G} {z : Nat} {b : Nat → Nat} {C : fr_C} {H9 : Heap} (h9 : fr_W D hCl z b C H9) {cI cZ cJ cP cO : ClassId} {e0 mi : Nat} {pg gr lf n an lc po : Nat} {dy : Nat → Int32} {dl : Nat → Int32} {ac : Nat → Int32} (h0 : C (0, 0) = some (.inr (0, fX b pg gr lf n an lc po))) (h3 : C (0, 3) = some (.inl (cI, 150, .inl dy))) (h4 : C (0, 4) = some (.inl (cZ, 150, .inl dl))) (h5 : C (0, 5) = some (.inl (cI, 150, .inl ac))) {hv fo ab mc : Int32} {lg nm dt tk n0 mL : Nat} {fnm : Nat → Int32} {f : Nat → Option Nat} (hlg : C (1, lg) = some (.inr (1, [.int hv, .int fo, .int ab, .ref nm]))) (hnm : C (1, nm) = some (.inl (cI, mL, .inl fnm))) (h7 : C (0, 7) = some (.inr (4, [.ref dt, .int (nI tk), .int mc]))) (hls : lsAt C cO e0 dt tk n0 f) (F mq : Nat) (t : Int32) (g : Nat → Nat) (htk : tk < 1000) (hpg : pg ≤ 50) (hmL2 : mL ≤ 150) (hF : F ≤ mL) (hm : F + mq = if F + pg < mL then F + pg else mL) (hdl : ∀ j, vp_nar .boolean (dl j) = dl j) (hgg : ∀ k, k < mL → fnm k = nI (g k) ∧ g k < 150) : Met l y_X_makePage w_X_makePage ({ frames := 7, cells := 6, slots := 2410, locals := 171 }) (va_Pc [.ref (b 0), .ref lg, .int (nI F), .int t] (fr_GX e0 mi D hCl (hTy cI cZ cJ cP cO) z b C)) (va_Qq (fun (r : Option Nat) (u : (Nat → Nat) × fr_C) => ∃ pa, r = some pa ∧ (∃ q0 q1 q2 q3 q4 q7, u.1 = fr_ub (fr_ub (fr_ub (fr_ub (fr_ub (fr_ub b 20 q0) 21 q1) 22 q2) 23 q3) 24 q4) 27 q7) ∧ xPage C u.2 b u.1 cI cZ cO pg gr lf n an lc po fo lg F mq t (kp (keepB ac ab) g F mq) (F + mq < mL) dy dl mc dt tk n0 f pa) (fun u t => fr_G D hCl (hTy cI cZ cJ cP cO) z ((fun u => u.1) u) ((fun u => u.2) u) t) (fr_A z)) 6 2410 (fr_A z) := by
  refine Met.ofW (cc := b_X_makePage) (maxL := 8) (ret := (some (.object "HarvestSteps$Page"))) (by decide) rfl ?_
  intro p e s m args below meth c s₁ B hml hv
  obtain ⟨rfl, ⟨hE, hK⟩, hX⟩ := hv
  have hx := B.exec
  have hb := B.bytes
  have hr := B.returns
  have hts := atoms_spec (ws := w_X_makePage) B.pre
  have hT : ∀ w ∈ hw_tbl, w.before _ s = true := fun w h => hts w (List.mem_cons_of_mem _ h)
  have hown : s.vm.findClass "HarvestSteps" = some m.cls := findClass_of_methodNamed B.named
  have hlocks := B.notSynchronized
  have hS : va_S (fr_A z) s.heap s.heap [] := va_S.rf
  have hl := lv_entry ([.ref (b 0), .ref lg, .int (nI F), .int t]) (n := 8) (Nat.le_of_ble_eq_true rfl)
  rw [lg_entry_eq]
  generalize (lg_sl ([.ref (b 0), .ref lg, .int (nI F), .int t]) ++ List.replicate (8 - (lg_sl ([.ref (b 0), .ref lg, .int (nI F), .int t])).length) Slot.unset).toArray = ls at hl ⊢
  have hl : lv_has ls 8 [(0, .ref (b 0)), (1, .ref lg), (2, .int (nI F)), (3, .int t)] := hl
  have hmb : F + mq ≤ mL ∧ mq ≤ pg := by split at hm <;> omega
  obtain ⟨hmb1, hmb2⟩ := hmb
  refine lv_iload_n hx hb d_X_makePage_0 rfl (lv_at hl 2 rfl) ?_
  refine lv_aload_n hx hb d_X_makePage_1 rfl (lv_at hl 0 rfl) ?_
  refine fr_get (ci := 0) (Cn := hR_0) (T := hF_0) (N := 16) hx hb hT hi_0 hown hK hE (0, 0) rfl h0 rfl 0 (by decide) (hT _ kw_87) (fun _ h9 => h9) rfl d_X_makePage_2 ?_
  refine lv_iadd hx hb d_X_makePage_5 ?_
  refine lv_topi (fun y_1 ey_1 => ?_)
  obtain rfl : y_1 = nI (F + pg) := ey_1.trans (nI_add F pg)
  refine lv_aload_n hx hb d_X_makePage_6 rfl (lv_at hl 1 rfl) ?_
  refine fr_get (ci := 1) (Cn := hR_1) (T := hF_1) (N := 4) hx hb hT hi_1 hown hK hE (1, lg) rfl hlg rfl 3 (by decide) (hT _ kw_220) (fun _ h9 => h9) rfl d_X_makePage_7 ?_
  refine fr_alen hx hb hK hE (1, nm) 0 rfl hnm rfl d_X_makePage_10 ?_
  refine va_mmin hx hb (hml.trans hl.1.symm) hown (hT _ kw_80) (hT _ kw_81) (hT _ kw_25) (hT _ kw_82) (Nat.le_of_ble_eq_true rfl) (Nat.le_of_ble_eq_true rfl) (Nat.le_of_ble_eq_true rfl) (Nat.le_of_ble_eq_true rfl) d_X_makePage_11 ?_
  refine lv_topi (fun y_2 ey_2 => ?_)
  obtain rfl : y_2 = nI (F + mq) := ey_2.trans (by split at hm; rw [hm, if_neg (nI_nlt (by omega) (by omega))]; rename_i hc9; rw [hm]; by_cases y : mL < F + pg; rw [if_pos (nI_lt y (by omega))]; rw [if_neg (nI_nlt (by omega) (by omega)), show F + pg = mL by omega])
  refine lv_istore (lv' := [(4, .int (nI (F + mq))), (0, .ref (b 0)), (1, .ref lg), (2, .int (nI F)), (3, .int t)]) hx hb d_X_makePage_14 hl (by decide) rfl (fun ls hl => ?_)
  refine fr_new (ci := 2) (fs := [.int 0, .null, .null, .null, .int 0, .int 0]) (Cn := hR_2) (T := hF_2) (N := 6) hx hb hT hi_2 hy_2 ho_2 hown (hT _ kw_75) (hT _ kw_234) (hT _ kw_30) hK hE hS 20 rfl (fun j hj => by rcases (show j = 0 ∨ j = 1 ∨ j = 2 ∨ j = 3 ∨ j = 4 ∨ j = 5 by omega) with rfl | rfl | rfl | rfl | rfl | rfl <;> rfl) (Nat.le_of_ble_eq_true rfl) (Nat.le_of_ble_eq_true rfl) d_X_makePage_16 (fun q20 H nq20 hE hS => ?_)
  refine W.widen (k := 1) (n := 6) (Nat.le_of_ble_eq_true rfl) (Nat.le_of_ble_eq_true rfl) ?_
  refine lv_dup hx hb d_X_makePage_19 rfl ?_
  refine lv_aload_n hx hb d_X_makePage_20 rfl (lv_at hl 2 rfl) ?_
  refine fr_get (ci := 1) (Cn := hR_1) (T := hF_1) (N := 4) hx hb hT hi_1 hown hK hE (1, lg) rfl hlg rfl 1 (by decide) (hT _ kw_216) (fun _ h9 => h9) rfl d_X_makePage_21 ?_
  refine lv_iconst (v := 0) hx hb d_X_makePage_24 (by decide) ?_
  refine lv_iload hx hb d_X_makePage_25 (lv_at hl 0 rfl) ?_
  refine lv_iload_n hx hb d_X_makePage_27 rfl (lv_at hl 3 rfl) ?_
  refine lv_isub hx hb d_X_makePage_28 ?_
  refine lv_topi (fun y_3 ey_3 => ?_)
  obtain rfl : y_3 = nI mq := ey_3.trans (by rw [pk_sub (by omega)]; exact congrArg nI (by omega))
  refine va_mmax hx hb (hml.trans hl.1.symm) hown (hT _ kw_83) (hT _ kw_84) (hT _ kw_25) (hT _ kw_85) (Nat.le_of_ble_eq_true rfl) (Nat.le_of_ble_eq_true rfl) (Nat.le_of_ble_eq_true rfl) (Nat.le_of_ble_eq_true rfl) d_X_makePage_29 ?_
  refine lv_topi (fun y_4 ey_4 => ?_)
  obtain rfl : y_4 = nI mq := ey_4.trans (by rcases Nat.eq_zero_or_pos mq with y | y; rw [y]; rfl; exact if_pos (nI_lt (a := 0) y (by omega)))
  refine fr_callv (va_runI (As := [.int fo, .int (nI mq)]) (rest := [.ref q20]) ⟨hx, hb, hml, hown, hts⟩ (c_P_init l hE rfl fo mq (by omega)) (cwI 2 hts (hw_good kw_237) rfl rfl rfl (hT _ kw_30) (hT _ kw_235) (hT _ kw_236) rfl (by decide +kernel) ⟨Nat.le_of_ble_eq_true rfl, Nat.le_of_ble_eq_true rfl⟩) ⟨fr_blind, fr_pre hE hK⟩ rfl rfl hl.1 rfl (lv_room (Nat.le_of_ble_eq_true rfl)) d_X_makePage_32 ⟨Nat.le_of_ble_eq_true rfl, Nat.le_of_ble_eq_true rfl⟩) hS (fun u_5 H locs w_5 hE hS => ?_)
  obtain ⟨v1, v2, v3, Cp⟩ := u_5
  obtain ⟨pg20, pg21, pg22, pg23, pag⟩ := w_5
  replace hE : fr_W D hCl z (fr_ub (fr_ub (fr_ub (fr_ub b 20 q20) 21 v1) 22 v2) 23 v3) Cp H := hE
  replace pg20 : Cp (0, 20) = some (.inr (2, [.int fo, .ref v1, .ref v2, .ref v3, .int 0, .int (-1)])) := pg20
  replace pg21 : Cp (0, 21) = some (.inl (cI, mq, .inl (fun _ => 0))) := pg21
  replace pg22 : Cp (0, 22) = some (.inl (cI, mq, .inl (fun _ => 0))) := pg22
  replace pg23 : Cp (0, 23) = some (.inl (cZ, mq, .inl (fun _ => 0))) := pg23
  replace pag : fr_ag [(0, 20), (0, 21), (0, 22), (0, 23)] Cp (fr_up C (0, 20) (.inr (2, [.int 0, .null, .null, .null, .int 0, .int 0]))) := pag
  refine lv_astore (lv' := [(5, .ref q20), (4, .int (nI (F + mq))), (0, .ref (b 0)), (1, .ref lg), (2, .int (nI F)), (3, .int t)]) hx hb d_X_makePage_35 hl (by decide) rfl (fun ls hl => ?_)
  refine lv_iload_n hx hb d_X_makePage_37 rfl (lv_at hl 4 rfl) ?_
  refine lv_istore (lv' := [(6, .int (nI F)), (5, .ref q20), (4, .int (nI (F + mq))), (0, .ref (b 0)), (1, .ref lg), (2, .int (nI F)), (3, .int t)]) hx hb d_X_makePage_38 hl (by decide) rfl (fun ls hl => ?_)
  refine W.widen (k := 4) (n := 156) (Nat.le_of_ble_eq_true rfl) (Nat.le_of_ble_eq_true rfl) ?_
  have ai0 : (mq + 1) + 0 = mq + 1 := by omega
  have ai1 : 0 ≤ mq := Nat.zero_le mq
  have ai2 : ([] : List Nat) = kp (keepB ac ab) g F 0 := rfl
  have ai3 : 0 = ([] : List Nat).length := rfl
  have ai4 : 0 + 0 = 0 := rfl
  have ai5 : Cp (0, 0) = some (.inr (0, fX b pg gr lf n an lc (po + 0))) := pag.at (by decide) h0
  have ai6 : Cp (0, 20) = some (.inr (2, [.int fo, .ref v1, .ref v2, .ref v3, .int (nI 0), .int (-1)])) := pg20
  have ai7 : Cp (0, 21) = some (.inl (cI, mq, .inl (fun _ : Nat => (0 : Int32)))) := pg21
  have ai8 : Cp (0, 22) = some (.inl (cI, mq, .inl (fun _ : Nat => (0 : Int32)))) := pg22
  have ai9 : Cp (0, 23) = some (.inl (cZ, mq, .inl (fun _ : Nat => (0 : Int32)))) := pg23
  have aiA : rowsOf ([] : List Nat) 0 dy dl (fun _ => 0) (fun _ => 0) (fun _ => 0) (fun _ : Nat => (0 : Int32)) (fun _ : Nat => (0 : Int32)) (fun _ : Nat => (0 : Int32)) := rowsOf_0
  have aiB : fr_ag [(0, 0), (0, 20), (0, 21), (0, 22), (0, 23)] Cp C := (pag.wider (by decide)).tr (fr_ag.rf.up (by decide))
  refine fr_loop (σ := Nat × Nat × Nat × List Nat × fr_C × (Nat → Int32) × (Nat → Int32) × (Nat → Int32)) (fun n9 x H locs ls => (n9 + x.1 = mq + 1) ∧ (x.1 ≤ mq) ∧ (x.2.2.2.1 = kp (keepB ac ab) g F x.1) ∧ (x.2.1 = x.2.2.2.1.length) ∧ (x.2.1 + x.2.2.1 = x.1) ∧ (x.2.2.2.2.1 (0, 0) = some (.inr (0, fX b pg gr lf n an lc (po + x.2.2.1)))) ∧ (x.2.2.2.2.1 (0, 20) = some (.inr (2, [.int fo, .ref v1, .ref v2, .ref v3, .int (nI x.2.1), .int (-1)]))) ∧ (x.2.2.2.2.1 (0, 21) = some (.inl (cI, mq, .inl x.2.2.2.2.2.1))) ∧ (x.2.2.2.2.1 (0, 22) = some (.inl (cI, mq, .inl x.2.2.2.2.2.2.1))) ∧ (x.2.2.2.2.1 (0, 23) = some (.inl (cZ, mq, .inl x.2.2.2.2.2.2.2))) ∧ (rowsOf x.2.2.2.1 0 dy dl (fun _ => 0) (fun _ => 0) (fun _ => 0) x.2.2.2.2.2.1 x.2.2.2.2.2.2.1 x.2.2.2.2.2.2.2) ∧ (fr_ag [(0, 0), (0, 20), (0, 21), (0, 22), (0, 23)] x.2.2.2.2.1 C) ∧ fr_W D hCl z (fr_ub (fr_ub (fr_ub (fr_ub b 20 q20) 21 v1) 22 v2) 23 v3) (x.2.2.2.2.1) H ∧ va_S (fr_A z) s.heap H locs ∧ lv_has ls 8 [(4, .int (nI (F + mq))), (5, .ref q20), (6, .int (nI (F + x.1))), (0, .ref (b 0)), (1, .ref lg), (2, .int (nI F)), (3, .int t)]) (fun x H locs ls h => by obtain ⟨h1, h2, -⟩ := h; omega) (fun n9 x H locs ls hI ih => ?_) (mq + 1) (0, 0, 0, ([] : List Nat), Cp, (fun _ : Nat => (0 : Int32)), (fun _ : Nat => (0 : Int32)), (fun _ : Nat => (0 : Int32))) _ _ _ ⟨ai0, ai1, ai2, ai3, ai4, ai5, ai6, ai7, ai8, ai9, aiA, aiB, hE, hS, lv_sub hl [2, 1, 0, 3, 4, 5, 6] rfl⟩
  obtain ⟨m1, A, B, K1, C1, fn1, fd1, fz1⟩ := x
  obtain ⟨i0, i1, i2, i3, i4, i5, i6, i7, i8, i9, iA, iB, hE, hS, hl⟩ := hI
  replace i0 : (n9 + 1) + m1 = mq + 1 := i0
  replace i1 : m1 ≤ mq := i1
  replace i2 : K1 = kp (keepB ac ab) g F m1 := i2
  replace i3 : A = K1.length := i3
  replace i4 : A + B = m1 := i4
  replace i5 : C1 (0, 0) = some (.inr (0, fX b pg gr lf n an lc (po + B))) := i5
  replace i6 : C1 (0, 20) = some (.inr (2, [.int fo, .ref v1, .ref v2, .ref v3, .int (nI A), .int (-1)])) := i6
  replace i7 : C1 (0, 21) = some (.inl (cI, mq, .inl fn1)) := i7
  replace i8 : C1 (0, 22) = some (.inl (cI, mq, .inl fd1)) := i8
  replace i9 : C1 (0, 23) = some (.inl (cZ, mq, .inl fz1)) := i9
  replace iA : rowsOf K1 0 dy dl (fun _ => 0) (fun _ => 0) (fun _ => 0) fn1 fd1 fz1 := iA
  replace iB : fr_ag [(0, 0), (0, 20), (0, 21), (0, 22), (0, 23)] C1 C := iB
  replace hE : fr_W D hCl z (fr_ub (fr_ub (fr_ub (fr_ub b 20 q20) 21 v1) 22 v2) 23 v3) (C1) H := hE
  replace hl : lv_has ls 8 [(4, .int (nI (F + mq))), (5, .ref q20), (6, .int (nI (F + m1))), (0, .ref (b 0)), (1, .ref lg), (2, .int (nI F)), (3, .int t)] := hl
  have k3 : C1 (0, 3) = some (.inl (cI, 150, .inl dy)) := iB.at (by decide) h3
  have k4 : C1 (0, 4) = some (.inl (cZ, 150, .inl dl)) := iB.at (by decide) h4
  have k5 : C1 (0, 5) = some (.inl (cI, 150, .inl ac)) := iB.at (by decide) h5
  have k7 : C1 (0, 7) = some (.inr (4, [.ref dt, .int (nI tk), .int mc])) := iB.at (by decide) h7
  have klg : C1 (1, lg) = some (.inr (1, [.int hv, .int fo, .int ab, .ref nm])) := iB.at (by simp) hlg
  have knm : C1 (1, nm) = some (.inl (cI, mL, .inl fnm)) := iB.at (by simp) hnm
  refine lv_iload hx hb d_X_makePage_40 (lv_at hl 2 rfl) ?_
  refine lv_iload hx hb d_X_makePage_42 (lv_at hl 0 rfl) ?_
  refine lv_icmp_ge (tgt := 110) hx hb d_X_makePage_44 (by decide) (fun c_6 => ?_) (fun c_6 => ?_)
  · skip
    have hmm : m1 = mq := by rcases Nat.lt_or_ge m1 mq with y | y; exact absurd c_6 (nI_ge (by omega) (by omega)); omega
    subst hmm
    refine lv_iload hx hb d_X_makePage_110 (lv_at hl 0 rfl) ?_
    refine lv_aload_n hx hb d_X_makePage_112 rfl (lv_at hl 4 rfl) ?_
    refine fr_get (ci := 1) (Cn := hR_1) (T := hF_1) (N := 4) hx hb hT hi_1 hown hK hE (1, lg) rfl klg rfl 3 (by decide) (hT _ kw_220) (fun _ h9 => h9) rfl d_X_makePage_113 ?_
    refine fr_alen hx hb hK hE (1, nm) 0 rfl knm rfl d_X_makePage_116 ?_
    refine lv_icmp_ge (tgt := 151) hx hb d_X_makePage_117 (by decide) (fun c_7 => ?_) (fun c_7 => ?_)
    · skip
      refine lv_aload hx hb d_X_makePage_151 (lv_at hl 1 rfl) ?_
      refine W.widen (k := 6) (n := 2410) (Nat.le_of_ble_eq_true rfl) (Nat.le_of_ble_eq_true rfl) ?_
      have htm : ¬ F + m1 < mL := fun y => absurd c_7 (nI_ge y (by omega))
      have hpool : ∀ a, C1 (1, a) = C (1, a) := fun a => iB (1, a) (by simp)
      obtain ⟨D1, hE, r1, s1, t1, u1⟩ := hE.ret1 20 i6
      obtain ⟨D2, hE, r2, s2, t2, u2⟩ := hE.ret1 21 ((t1 21 (by decide)).trans i7)
      obtain ⟨D3, hE, r3, s3, t3, u3⟩ := hE.ret1 22 ((t2 22 (by decide)).trans ((t1 22 (by decide)).trans i8))
      obtain ⟨D4, hE, r4, s4, t4, u4⟩ := hE.ret1 23 ((t3 23 (by decide)).trans ((t2 23 (by decide)).trans ((t1 23 (by decide)).trans i9)))
      have hfx : ∀ i, i < 20 ∨ 28 ≤ i → D4 (0, i) = C1 (0, i) := fun i h => ((t4 i (by omega)).trans ((t3 i (by omega)).trans ((t2 i (by omega)).trans (t1 i (by omega)))))
      have hpl : ∀ a e, C1 (1, a) = some e → D4 (1, a) = some e := fun a e y => s4 _ _ (s3 _ _ (s2 _ _ (s1 _ _ y)))
      have hpost : xPage C D4 b (fr_ub (fr_ub (fr_ub (fr_ub b 20 q20) 21 v1) 22 v2) 23 v3) cI cZ cO pg gr lf n an lc po fo lg F m1 t (kp (keepB ac ab) g F m1) (F + m1 < mL) dy dl mc dt tk n0 f q20 := ⟨v1, v2, v3, -1, fn1, fd1, fz1, (by rw [← i2, ← i3]; exact s4 _ _ (s3 _ _ (s2 _ _ r1))), s4 _ _ (s3 _ _ r2), s4 _ _ r3, r4, (by rw [← i2]; exact iA), (by rw [← i2, ← i3]; omega), (by rw [← i2, ← i3, show m1 - A = B by omega]; exact (hfx 0 (by decide)).trans i5), fun a e y _ => hpl a e ((hpool a).trans y), fun i h1 h2 h3 => (hfx i h3).trans (iB (0, i) (by simp; omega)), fun i h => (fr_ub_ne (by omega)).trans ((fr_ub_ne (by omega)).trans ((fr_ub_ne (by omega)).trans (fr_ub_ne (by omega)))), (hpool q20).symm.trans u1, Or.inr ⟨htm, rfl, (hfx 7 (by decide)).trans k7, fun e y => hpl dt e ((hpool dt).trans y)⟩⟩
      exact W.aret (v := .ref q20) hx hb hr (Or.inl ⟨_, rfl⟩) (va_rf_or (some q20)) (fun t9 ht9 hW9 => ⟨⟨(some q20), ((fr_ub (fr_ub (fr_ub (fr_ub b 20 q20) 21 v1) 22 v2) 23 v3), D4), rfl, ⟨q20, rfl, ⟨q20, v1, v2, v3, b 24, b 27, ((congrArg (fun x => fr_ub x 27 (b 27)) (fr_ub_same (fr_ub (fr_ub (fr_ub (fr_ub b 20 q20) 21 v1) 22 v2) 23 v3) 24)).trans (fr_ub_same (fr_ub (fr_ub (fr_ub (fr_ub b 20 q20) 21 v1) 22 v2) 23 v3) 27)).symm⟩, hpost⟩, ⟨by rw [ht9]; exact hE, va_K.moved hW9.alike hK⟩⟩, hS.F ht9⟩) hS.2.2 d_X_makePage_153
    · skip
      refine lv_aload hx hb d_X_makePage_120 (lv_at hl 1 rfl) ?_
      refine lv_aload_n hx hb d_X_makePage_122 rfl (lv_at hl 3 rfl) ?_
      refine fr_get (ci := 0) (Cn := hR_0) (T := hF_0) (N := 16) hx hb hT hi_0 hown hK hE (0, 0) rfl i5 rfl 12 (by decide) (hT _ kw_99) (fun _ h9 => h9) rfl d_X_makePage_123 ?_
      refine fr_calli (va_runV (As := []) (rest := [.ref q20]) ⟨hx, hb, hml, hown, hts⟩ (c_A_size l hE k7) (cwV 0 hts (hw_goodV kw_268 kw_269 kw_270 kw_24 kw_271) rfl rfl rfl (by decide +kernel) ⟨Nat.le_of_ble_eq_true rfl, Nat.le_of_ble_eq_true rfl⟩) ⟨fr_blind, fr_recv hK hE (0, 7) rfl k7 (ci := 4) rfl, fr_pre hE hK⟩ rfl rfl hl.1 rfl (lv_room (Nat.le_of_ble_eq_true rfl)) d_X_makePage_126 ⟨Nat.le_of_ble_eq_true rfl, Nat.le_of_ble_eq_true rfl⟩) hS (fun r_8 u_8 H locs w_8 hE hS => ?_)
      obtain rfl := w_8
      refine fr_put (ci := 2) (v := .int (nI tk)) (ty := .int) (Cn := hR_2) (T := hF_2) (N := 6) hx hb hT hi_2 hy_2 ho_2 hn_2 hown hK hE hS (0, 20) rfl i6 rfl 5 (by decide) (hT _ kw_250) (fun _ h9 => h9) rfl (by decide +kernel) rfl rfl (Nat.le_of_ble_eq_true rfl) d_X_makePage_129 (fun H locs hE hS => ?_)
      refine lv_aload_n hx hb d_X_makePage_132 rfl (lv_at hl 3 rfl) ?_
      refine fr_get (ci := 0) (Cn := hR_0) (T := hF_0) (N := 16) hx hb hT hi_0 hown hK hE (0, 0) rfl i5 rfl 12 (by decide) (hT _ kw_99) (fun _ h9 => h9) rfl d_X_makePage_133 ?_
      refine fr_new (ci := 3) (fs := [.null, .int 0, .int 0, .null]) (Cn := hR_3) (T := hF_3) (N := 4) hx hb hT hi_3 hy_3 ho_3 hown (hT _ kw_272) (hT _ kw_273) (hT _ kw_31) hK hE hS 24 rfl (fun j hj => by rcases (show j = 0 ∨ j = 1 ∨ j = 2 ∨ j = 3 by omega) with rfl | rfl | rfl | rfl <;> rfl) (Nat.le_of_ble_eq_true rfl) (Nat.le_of_ble_eq_true rfl) d_X_makePage_136 (fun q24 H nq24 hE hS => ?_)
      refine W.widen (k := 5) (n := 160) (Nat.le_of_ble_eq_true rfl) (Nat.le_of_ble_eq_true rfl) ?_
      refine lv_dup hx hb d_X_makePage_139 rfl ?_
      refine lv_aload_n hx hb d_X_makePage_140 rfl (lv_at hl 4 rfl) ?_
      refine lv_iload hx hb d_X_makePage_141 (lv_at hl 0 rfl) ?_
      refine lv_iload_n hx hb d_X_makePage_143 rfl (lv_at hl 6 rfl) ?_
      refine fr_callv (va_runI (As := [.ref lg, .int (nI (F + m1)), .int t]) (rest := [.ref q24, .ref (b 7)]) ⟨hx, hb, hml, hown, hts⟩ (c_T_init l hE rfl lg (nI (F + m1)) t) (cwI 3 hts (hw_good kw_276) rfl rfl rfl (hT _ kw_31) (hT _ kw_274) (hT _ kw_275) rfl (by decide +kernel) ⟨Nat.le_of_ble_eq_true rfl, Nat.le_of_ble_eq_true rfl⟩) ⟨fr_blind, fr_pre hE hK⟩ rfl rfl hl.1 rfl (lv_room (Nat.le_of_ble_eq_true rfl)) d_X_makePage_144 ⟨Nat.le_of_ble_eq_true rfl, Nat.le_of_ble_eq_true rfl⟩) hS (fun u_9 H locs w_9 hE hS => ?_)
      rw [fr_up_up] at hE
      have hpool : ∀ a, C1 (1, a) = C (1, a) := fun a => iB (1, a) (by simp)
      have hls9 := hE.say (fun X => lsAt X cO e0 dt tk n0 f) (by rcases hls with y | ⟨y1, y2, y3, y4, y5, y6⟩; exact Or.inl y; exact Or.inr ⟨(hpool dt).trans y1, y2, y3, y4, fun i y hi hy => by obtain ⟨fs, hfs⟩ := y5 i y hi hy; exact ⟨fs, (hpool y).trans hfs⟩, y6⟩)
      refine fr_calli (va_runV (As := [.ref q24]) (rest := []) ⟨hx, hb, hml, hown, hts⟩ (c_A_add l hE (dt := dt) (tk := tk) (n0 := n0) (f := f) (mc := mc) k7 hls9 (by omega) rfl) (cwV 1 hts (hw_goodV kw_295 kw_296 kw_297 kw_24 kw_298) rfl rfl rfl (by decide +kernel) ⟨Nat.le_of_ble_eq_true rfl, Nat.le_of_ble_eq_true rfl⟩) ⟨fr_blindX, fr_recv hK hE (0, 7) rfl k7 (ci := 4) rfl, fr_preX hE hK hX hS⟩ rfl rfl hl.1 rfl (lv_room (Nat.le_of_ble_eq_true rfl)) d_X_makePage_147 ⟨Nat.le_of_ble_eq_true rfl, Nat.le_of_ble_eq_true rfl⟩) hS (fun r_10 u_10 H locs w_10 hE hS => ?_)
      obtain ⟨b9, C9, dt9, n9, f9⟩ := u_10
      obtain ⟨rfl, y1, y2, y3, y4, y5, y6, y7, y8, y9, yA, q27, yB⟩ := w_10
      replace yB : b9 = fr_ub _ 27 q27 := yB
      subst yB
      refine lv_pop hx hb d_X_makePage_150 rfl ?_
      refine lv_aload hx hb d_X_makePage_151 (lv_at hl 1 rfl) ?_
      refine W.widen (k := 6) (n := 2410) (Nat.le_of_ble_eq_true rfl) (Nat.le_of_ble_eq_true rfl) ?_
      have htm : F + m1 < mL := by rcases Nat.lt_or_ge (F + m1) mL with y | y; exact y; exact absurd (nI_le y (by omega)) c_7
      have yag : fr_ag [(0, 7), (0, 27), (1, dt9)] C9 (fr_up (fr_up C1 (0, 20) (.inr (2, [.int fo, .ref v1, .ref v2, .ref v3, .int (nI A), .int (nI tk)]))) (0, 24) (.inr (3, [.ref lg, .int (nI (F + m1)), .int t, .null]))) := yA
      have j20 : C9 (0, 20) = some (.inr (2, [.int fo, .ref v1, .ref v2, .ref v3, .int (nI A), .int (nI tk)])) := yag.at (by simp) rfl
      have j21 : C9 (0, 21) = some (.inl (cI, m1, .inl fn1)) := yag.at (by simp) i7
      have j22 : C9 (0, 22) = some (.inl (cI, m1, .inl fd1)) := yag.at (by simp) i8
      have j23 : C9 (0, 23) = some (.inl (cZ, m1, .inl fz1)) := yag.at (by simp) i9
      have j24 : C9 (0, 24) = some (.inr (3, [.ref lg, .int (nI (F + m1)), .int t, .null])) := yag.at (by simp) rfl
      obtain ⟨D1, hE, r1, s1, t1, u1⟩ := hE.ret1 20 j20
      obtain ⟨D2, hE, r2, s2, t2, u2⟩ := hE.ret1 21 ((t1 21 (by decide)).trans j21)
      obtain ⟨D3, hE, r3, s3, t3, u3⟩ := hE.ret1 22 ((t2 22 (by decide)).trans ((t1 22 (by decide)).trans j22))
      obtain ⟨D4, hE, r4, s4, t4, u4⟩ := hE.ret1 23 ((t3 23 (by decide)).trans ((t2 23 (by decide)).trans ((t1 23 (by decide)).trans j23)))
      obtain ⟨D5, hE, r5, s5, t5, u5⟩ := hE.ret1 24 ((t4 24 (by decide)).trans ((t3 24 (by decide)).trans ((t2 24 (by decide)).trans ((t1 24 (by decide)).trans j24))))
      have hfx : ∀ i, i < 20 ∨ 28 ≤ i → D5 (0, i) = C9 (0, i) := fun i h => ((t5 i (by omega)).trans ((t4 i (by omega)).trans ((t3 i (by omega)).trans ((t2 i (by omega)).trans (t1 i (by omega))))))
      have hpl : ∀ a e, C9 (1, a) = some e → D5 (1, a) = some e := fun a e y => s5 _ _ (s4 _ _ (s3 _ _ (s2 _ _ (s1 _ _ y))))
      have hold : ∀ a, a ≠ dt9 → C9 (1, a) = C (1, a) := fun a h => (yag (1, a) (by simpa using h)).trans (hpool a)
      have hnew : ∀ a, C9 (1, a) = none → C (1, a) = none := fun a h => by by_cases y : a = dt9; subst y; exact absurd (y2.symm.trans h) (by simp); exact (hold a y).symm.trans h
      have hpost : xPage C D5 b (fr_ub (fr_ub (fr_ub (fr_ub (fr_ub (fr_ub b 20 q20) 21 v1) 22 v2) 23 v3) 24 q24) 27 q27) cI cZ cO pg gr lf n an lc po fo lg F m1 t (kp (keepB ac ab) g F m1) (F + m1 < mL) dy dl mc dt tk n0 f q20 := ⟨v1, v2, v3, nI tk, fn1, fd1, fz1, (by rw [← i2, ← i3]; exact s5 _ _ (s4 _ _ (s3 _ _ (s2 _ _ r1)))), s5 _ _ (s4 _ _ (s3 _ _ r2)), s5 _ _ (s4 _ _ r3), s5 _ _ r4, (by rw [← i2]; exact iA), (by rw [← i2, ← i3]; omega), (by rw [← i2, ← i3, show m1 - A = B by omega]; exact (hfx 0 (by decide)).trans (yag.at (by simp) i5)), (fun a e y ha => hpl a e ((hold a (fun q => by rcases y9 with h9 | h9; exact ha (q.trans h9); rw [← q] at h9; exact absurd (show C (1, a) = none from (hpool a).symm.trans h9) (by rw [y]; simp))).trans y)), fun i h1 h2 h3 => (hfx i h3).trans ((yag (0, i) (by simp; omega)).trans ((fr_up_ne (by simp; omega)).trans ((fr_up_ne (by simp; omega)).trans (iB (0, i) (by simp; omega))))), fun i h => (fr_ub_ne (by omega)).trans ((fr_ub_ne (by omega)).trans ((fr_ub_ne (by omega)).trans ((fr_ub_ne (by omega)).trans ((fr_ub_ne (by omega)).trans (fr_ub_ne (by omega)))))), hnew q20 u1, Or.inl ⟨htm, rfl, q24, dt9, n9, f9, r5, (hfx 7 (by decide)).trans y1, hpl _ _ y2, y3, y4, y5, y6, y7, y8, y9.elim Or.inl (fun h => Or.inr ((hpool dt9).symm.trans h)), hnew q24 (by have y := u5; cases hc : C9 (1, q24) with | none => rfl | some e9 => exact absurd ((s4 _ _ (s3 _ _ (s2 _ _ (s1 _ _ hc)))).symm.trans y) (by simp))⟩⟩
      exact W.aret (v := .ref q20) hx hb hr (Or.inl ⟨_, rfl⟩) (va_rf_or (some q20)) (fun t9 ht9 hW9 => ⟨⟨(some q20), ((fr_ub (fr_ub (fr_ub (fr_ub (fr_ub (fr_ub b 20 q20) 21 v1) 22 v2) 23 v3) 24 q24) 27 q27), D5), rfl, ⟨q20, rfl, ⟨q20, v1, v2, v3, q24, q27, rfl⟩, hpost⟩, ⟨by rw [ht9]; exact hE, va_K.moved hW9.alike hK⟩⟩, hS.F ht9⟩) hS.2.2 d_X_makePage_153
  · skip
    have hm1 : m1 < mq := by rcases Nat.lt_or_ge m1 mq with y | y; exact y; exact absurd (nI_le (by omega) (by omega)) c_6
    have hgk := hgg (F + m1) (by omega)
    refine lv_aload_n hx hb d_X_makePage_47 rfl (lv_at hl 4 rfl) ?_
    refine fr_get (ci := 1) (Cn := hR_1) (T := hF_1) (N := 4) hx hb hT hi_1 hown hK hE (1, lg) rfl klg rfl 3 (by decide) (hT _ kw_220) (fun _ h9 => h9) rfl d_X_makePage_48 ?_
    refine lv_iload hx hb d_X_makePage_51 (lv_at hl 2 rfl) ?_
    refine fr_iald hx hb hK hE (1, nm) 0 rfl knm rfl (F + m1) (rfl) (by omega) (by omega) d_X_makePage_53 ?_
    refine lv_istore (lv' := [(7, .int (fnm (F + m1))), (4, .int (nI (F + mq))), (5, .ref q20), (6, .int (nI (F + m1))), (0, .ref (b 0)), (1, .ref lg), (2, .int (nI F)), (3, .int t)]) hx hb d_X_makePage_54 hl (by decide) rfl (fun ls hl => ?_)
    refine lv_aload_n hx hb d_X_makePage_56 rfl (lv_at hl 4 rfl) ?_
    refine fr_get (ci := 0) (Cn := hR_0) (T := hF_0) (N := 16) hx hb hT hi_0 hown hK hE (0, 0) rfl i5 rfl 7 (by decide) (hT _ kw_94) (fun _ h9 => h9) rfl d_X_makePage_57 ?_
    refine lv_iload hx hb d_X_makePage_60 (lv_at hl 0 rfl) ?_
    refine fr_iald hx hb hK hE (0, 5) 0 rfl k5 rfl (g (F + m1)) (hgk.1) (hgk.2) (by decide) d_X_makePage_62 ?_
    refine lv_aload_n hx hb d_X_makePage_63 rfl (lv_at hl 5 rfl) ?_
    refine fr_get (ci := 1) (Cn := hR_1) (T := hF_1) (N := 4) hx hb hT hi_1 hown hK hE (1, lg) rfl klg rfl 2 (by decide) (hT _ kw_218) (fun _ h9 => h9) rfl d_X_makePage_64 ?_
    refine lv_icmp_le (tgt := 83) hx hb d_X_makePage_67 (by decide) (fun c_11 => ?_) (fun c_11 => ?_)
    · skip
      refine lv_aload hx hb d_X_makePage_83 (lv_at hl 2 rfl) ?_
      refine lv_iload hx hb d_X_makePage_85 (lv_at hl 0 rfl) ?_
      refine lv_aload_n hx hb d_X_makePage_87 rfl (lv_at hl 4 rfl) ?_
      refine fr_get (ci := 0) (Cn := hR_0) (T := hF_0) (N := 16) hx hb hT hi_0 hown hK hE (0, 0) rfl i5 rfl 5 (by decide) (hT _ kw_92) (fun _ h9 => h9) rfl d_X_makePage_88 ?_
      refine lv_iload hx hb d_X_makePage_91 (lv_at hl 0 rfl) ?_
      refine fr_iald hx hb hK hE (0, 3) 0 rfl k3 rfl (g (F + m1)) (hgk.1) (hgk.2) (by decide) d_X_makePage_93 ?_
      refine lv_aload_n hx hb d_X_makePage_94 rfl (lv_at hl 4 rfl) ?_
      refine fr_get (ci := 0) (Cn := hR_0) (T := hF_0) (N := 16) hx hb hT hi_0 hown hK hE (0, 0) rfl i5 rfl 6 (by decide) (hT _ kw_93) (fun _ h9 => h9) rfl d_X_makePage_95 ?_
      refine lv_iload hx hb d_X_makePage_98 (lv_at hl 0 rfl) ?_
      refine fr_zald hx hb hK hE (0, 4) 1 rfl k4 rfl (g (F + m1)) (hgk.1) (hgk.2) (by decide) d_X_makePage_100 ?_
      refine fr_callv (va_runV (As := [.int (fnm (F + m1)), .int (dy (g (F + m1))), .int (dl (g (F + m1)))]) (rest := []) ⟨hx, hb, hml, hown, hts⟩ (c_P_keep l hE i6 i7 i8 i9 (by omega) (by omega) (fnm (F + m1)) (dy (g (F + m1))) (dl (g (F + m1))) (hdl _)) (cwV 3 hts (hw_goodV kw_264 kw_265 kw_266 kw_30 kw_267) rfl rfl rfl (by decide +kernel) ⟨Nat.le_of_ble_eq_true rfl, Nat.le_of_ble_eq_true rfl⟩) ⟨fr_blind, fr_recv hK hE (0, 20) rfl i6 (ci := 2) rfl, fr_pre hE hK⟩ rfl rfl hl.1 rfl (lv_room (Nat.le_of_ble_eq_true rfl)) d_X_makePage_101 ⟨Nat.le_of_ble_eq_true rfl, Nat.le_of_ble_eq_true rfl⟩) hS (fun u_12 H locs w_12 hE hS => ?_)
      refine lv_iinc (v := nI (F + (m1 + 1))) (lv' := [(6, .int (nI (F + (m1 + 1)))), (7, .int (fnm (F + m1))), (4, .int (nI (F + mq))), (5, .ref q20), (0, .ref (b 0)), (1, .ref lg), (2, .int (nI F)), (3, .int t)]) hx hb d_X_makePage_104 hl (k := 3) rfl ((nI_1 _).trans (congrArg nI (by omega))) (by decide) rfl (fun ls hl => ?_)
      refine lv_goto (tgt := 40) hx hb d_X_makePage_107 (by decide) ?_
      have ys : (keepB ac ab) (g (F + m1)) = true := decide_eq_true c_11
      have bi0 : n9 + (m1 + 1) = mq + 1 := by omega
      have bi1 : (m1 + 1) ≤ mq := by omega
      have bi2 : (K1 ++ [g (F + m1)]) = kp (keepB ac ab) g F (m1 + 1) := by rw [kp_yes ys, i2]
      have bi3 : (A + 1) = (K1 ++ [g (F + m1)]).length := by rw [List.length_append, ← i3]; rfl
      have bi4 : (A + 1) + B = (m1 + 1) := by omega
      have bi5 : (fr_up (fr_up (fr_up (fr_up C1 (0, 21) (.inl (cI, mq, .inl (upd fn1 A (fnm (F + m1)))))) (0, 22) (.inl (cI, mq, .inl (upd fd1 A (dy (g (F + m1))))))) (0, 23) (.inl (cZ, mq, .inl (upd fz1 A (dl (g (F + m1))))))) (0, 20) (.inr (2, [.int fo, .ref v1, .ref v2, .ref v3, .int (nI (A + 1)), .int (-1)]))) (0, 0) = some (.inr (0, fX b pg gr lf n an lc (po + B))) := i5
      have bi6 : (fr_up (fr_up (fr_up (fr_up C1 (0, 21) (.inl (cI, mq, .inl (upd fn1 A (fnm (F + m1)))))) (0, 22) (.inl (cI, mq, .inl (upd fd1 A (dy (g (F + m1))))))) (0, 23) (.inl (cZ, mq, .inl (upd fz1 A (dl (g (F + m1))))))) (0, 20) (.inr (2, [.int fo, .ref v1, .ref v2, .ref v3, .int (nI (A + 1)), .int (-1)]))) (0, 20) = some (.inr (2, [.int fo, .ref v1, .ref v2, .ref v3, .int (nI (A + 1)), .int (-1)])) := rfl
      have bi7 : (fr_up (fr_up (fr_up (fr_up C1 (0, 21) (.inl (cI, mq, .inl (upd fn1 A (fnm (F + m1)))))) (0, 22) (.inl (cI, mq, .inl (upd fd1 A (dy (g (F + m1))))))) (0, 23) (.inl (cZ, mq, .inl (upd fz1 A (dl (g (F + m1))))))) (0, 20) (.inr (2, [.int fo, .ref v1, .ref v2, .ref v3, .int (nI (A + 1)), .int (-1)]))) (0, 21) = some (.inl (cI, mq, .inl (upd fn1 A (fnm (F + m1))))) := rfl
      have bi8 : (fr_up (fr_up (fr_up (fr_up C1 (0, 21) (.inl (cI, mq, .inl (upd fn1 A (fnm (F + m1)))))) (0, 22) (.inl (cI, mq, .inl (upd fd1 A (dy (g (F + m1))))))) (0, 23) (.inl (cZ, mq, .inl (upd fz1 A (dl (g (F + m1))))))) (0, 20) (.inr (2, [.int fo, .ref v1, .ref v2, .ref v3, .int (nI (A + 1)), .int (-1)]))) (0, 22) = some (.inl (cI, mq, .inl (upd fd1 A (dy (g (F + m1)))))) := rfl
      have bi9 : (fr_up (fr_up (fr_up (fr_up C1 (0, 21) (.inl (cI, mq, .inl (upd fn1 A (fnm (F + m1)))))) (0, 22) (.inl (cI, mq, .inl (upd fd1 A (dy (g (F + m1))))))) (0, 23) (.inl (cZ, mq, .inl (upd fz1 A (dl (g (F + m1))))))) (0, 20) (.inr (2, [.int fo, .ref v1, .ref v2, .ref v3, .int (nI (A + 1)), .int (-1)]))) (0, 23) = some (.inl (cZ, mq, .inl (upd fz1 A (dl (g (F + m1)))))) := rfl
      have biA : rowsOf (K1 ++ [g (F + m1)]) 0 dy dl (fun _ => 0) (fun _ => 0) (fun _ => 0) (upd fn1 A (fnm (F + m1))) (upd fd1 A (dy (g (F + m1)))) (upd fz1 A (dl (g (F + m1)))) := by have := rowsOf_add (w := 0) (dy := dy) (dl := dl) i3 hgk.1 iA; rw [Nat.zero_add] at this; exact this
      have biB : fr_ag [(0, 0), (0, 20), (0, 21), (0, 22), (0, 23)] (fr_up (fr_up (fr_up (fr_up C1 (0, 21) (.inl (cI, mq, .inl (upd fn1 A (fnm (F + m1)))))) (0, 22) (.inl (cI, mq, .inl (upd fd1 A (dy (g (F + m1))))))) (0, 23) (.inl (cZ, mq, .inl (upd fz1 A (dl (g (F + m1))))))) (0, 20) (.inr (2, [.int fo, .ref v1, .ref v2, .ref v3, .int (nI (A + 1)), .int (-1)]))) C := (((iB.up (by decide)).up (by decide)).up (by decide)).up (by decide)
      exact ih (m1 + 1, A + 1, B, K1 ++ [g (F + m1)], fr_up (fr_up (fr_up (fr_up C1 (0, 21) (.inl (cI, mq, .inl (upd fn1 A (fnm (F + m1)))))) (0, 22) (.inl (cI, mq, .inl (upd fd1 A (dy (g (F + m1))))))) (0, 23) (.inl (cZ, mq, .inl (upd fz1 A (dl (g (F + m1))))))) (0, 20) (.inr (2, [.int fo, .ref v1, .ref v2, .ref v3, .int (nI (A + 1)), .int (-1)])), upd fn1 A (fnm (F + m1)), upd fd1 A (dy (g (F + m1))), upd fz1 A (dl (g (F + m1)))) _ _ _ ⟨bi0, bi1, bi2, bi3, bi4, bi5, bi6, bi7, bi8, bi9, biA, biB, hE, hS, lv_sub hl [2, 3, 0, 4, 5, 6, 7] rfl⟩
    · skip
      refine lv_aload_n hx hb d_X_makePage_70 rfl (lv_at hl 4 rfl) ?_
      refine lv_dup hx hb d_X_makePage_71 rfl ?_
      refine fr_get (ci := 0) (Cn := hR_0) (T := hF_0) (N := 16) hx hb hT hi_0 hown hK hE (0, 0) rfl i5 rfl 15 (by decide) (hT _ kw_102) (fun _ h9 => h9) rfl d_X_makePage_72 ?_
      refine lv_iconst (v := 1) hx hb d_X_makePage_75 (by decide) ?_
      refine lv_iadd hx hb d_X_makePage_76 ?_
      refine lv_topi (fun y_13 ey_13 => ?_)
      obtain rfl : y_13 = nI (po + (B + 1)) := ey_13.trans ((nI_1 _).trans (congrArg nI (by omega)))
      refine fr_put (ci := 0) (v := .int (nI (po + (B + 1)))) (ty := .int) (Cn := hR_0) (T := hF_0) (N := 16) hx hb hT hi_0 hy_0 ho_0 hn_0 hown hK hE hS (0, 0) rfl i5 rfl 15 (by decide) (hT _ kw_102) (fun _ h9 => h9) rfl (by decide +kernel) rfl rfl (Nat.le_of_ble_eq_true rfl) d_X_makePage_77 (fun H locs hE hS => ?_)
      refine lv_goto (tgt := 104) hx hb d_X_makePage_80 (by decide) ?_
      refine lv_iinc (v := nI (F + (m1 + 1))) (lv' := [(6, .int (nI (F + (m1 + 1)))), (7, .int (fnm (F + m1))), (4, .int (nI (F + mq))), (5, .ref q20), (0, .ref (b 0)), (1, .ref lg), (2, .int (nI F)), (3, .int t)]) hx hb d_X_makePage_104 hl (k := 3) rfl ((nI_1 _).trans (congrArg nI (by omega))) (by decide) rfl (fun ls hl => ?_)
      refine lv_goto (tgt := 40) hx hb d_X_makePage_107 (by decide) ?_
      have ns : (keepB ac ab) (g (F + m1)) = false := decide_eq_false c_11
      have bi0 : n9 + (m1 + 1) = mq + 1 := by omega
      have bi1 : (m1 + 1) ≤ mq := by omega
      have bi2 : K1 = kp (keepB ac ab) g F (m1 + 1) := i2.trans (kp_no ns).symm
      have bi3 : A = K1.length := i3
      have bi4 : A + (B + 1) = (m1 + 1) := by omega
      have bi5 : (fr_up C1 (0, 0) (.inr (0, fX b pg gr lf n an lc (po + (B + 1))))) (0, 0) = some (.inr (0, fX b pg gr lf n an lc (po + (B + 1)))) := rfl
      have bi6 : (fr_up C1 (0, 0) (.inr (0, fX b pg gr lf n an lc (po + (B + 1))))) (0, 20) = some (.inr (2, [.int fo, .ref v1, .ref v2, .ref v3, .int (nI A), .int (-1)])) := i6
      have bi7 : (fr_up C1 (0, 0) (.inr (0, fX b pg gr lf n an lc (po + (B + 1))))) (0, 21) = some (.inl (cI, mq, .inl fn1)) := i7
      have bi8 : (fr_up C1 (0, 0) (.inr (0, fX b pg gr lf n an lc (po + (B + 1))))) (0, 22) = some (.inl (cI, mq, .inl fd1)) := i8
      have bi9 : (fr_up C1 (0, 0) (.inr (0, fX b pg gr lf n an lc (po + (B + 1))))) (0, 23) = some (.inl (cZ, mq, .inl fz1)) := i9
      have biA : rowsOf K1 0 dy dl (fun _ => 0) (fun _ => 0) (fun _ => 0) fn1 fd1 fz1 := iA
      have biB : fr_ag [(0, 0), (0, 20), (0, 21), (0, 22), (0, 23)] (fr_up C1 (0, 0) (.inr (0, fX b pg gr lf n an lc (po + (B + 1))))) C := iB.up (by decide)
      exact ih (m1 + 1, A, B + 1, K1, fr_up C1 (0, 0) (.inr (0, fX b pg gr lf n an lc (po + (B + 1)))), fn1, fd1, fz1) _ _ _ ⟨bi0, bi1, bi2, bi3, bi4, bi5, bi6, bi7, bi8, bi9, biA, biB, hE, hS, lv_sub hl [2, 3, 0, 4, 5, 6, 7] rfl⟩
