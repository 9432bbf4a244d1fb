theorem kw_392 : Cond.codeWith ⟨"HarvestStepsLaw", "row", "(LHarvestSteps;III[J)I"⟩ method_3_code 6 (some .int) [(0, 12, 15, 13)] ∈ hw_tbl := hw_in2 132 rfl rfl
theorem fr_loopN {p : Program} {l : Launch} {e : Env} {R : Room} {s : State} {m : MethodId} {args : Array Value} {below : List Frame} {meth : Method} {c : Code} {Q : State → Prop} {pc : Nat} {σ : Type} (cf sf : σ → Nat) (I : Nat → σ → Heap → List Loc → Array Slot → Prop)
    (h0 : ∀ x H locs ls, ¬ I 0 x H locs ls)
    (hs : ∀ n x H locs ls, I (n + 1) x H locs ls → (∀ x' H' locs' ls', I n x' H' locs' ls' → W p l e R s m args below meth c H' locs' (cf x') (sf x') Q (F0 m pc ls' [])) → W p l e R s m args below meth c H locs (cf x) (sf x) Q (F0 m pc ls [])) :
    ∀ n x H locs ls, I n x H locs ls → W p l e R s m args below meth c H locs (cf x) (sf x) Q (F0 m pc ls []) := by
  intro n
  induction n with
  | zero => intro x H locs ls h; exact absurd h (h0 x H locs ls)
  | succ n ih => intro x H locs ls h; exact hs n x H locs ls h ih
/-- the pool lies above z -/
theorem fr_W.above {D : va_G} {cl : List vw_C} {z : Nat} {b : Nat → Nat} {C : fr_C} {H : Heap} (h : fr_W D cl z b C H) : ∀ a e, C (1, a) = some e → z ≤ a := fun a e y => (h.2.1 (1, a) e y).2
set_option maxHeartbeats 4000000 in
set_option maxRecDepth 100000 in
theorem l_list {cI cZ cJ cP cO : ClassId} {e0 : Nat} {b : Nat → Nat} {C : fr_C} {N : Nat} {pg gr lf n an lc po ps rw tk dt n0 : Nat} {th mc : Int32} {st dy dl ac hd mn si fo ol li pl pf pr pa pt rr rd rg tp md le aw cs : Nat → Int32} {lp f : Nat → Option Nat} {Fr : Nat → Nat} {o30 : Nat → Int64} (hC : CpB cI cZ cJ cP cO e0 b C N pg gr lf n an lc po ps rw tk dt n0 th mc st dy dl ac hd mn si fo ol li pl pf pr pa pt rr rd rg tp md le aw cs lp f Fr o30) {z : Nat} {h fm fr to of t r1 : Int32} {u1 : (Nat → Nat) × fr_C} (w1 : (fun (f9 : Nat → Option Nat) (f : Int32) => fun (r : Int32) (u : (Nat → Nat) × fr_C) => (lsErr gr lc (gaF (selB fr to of dy st) dy n).2 hd h f fr to of t r ∧ u.1 = b ∧ ∃ od, u.2 = fr_up C (0, 6) (.inl (cI, 150, .inl od))) ∨ (lsOk gr lc (gaF (selB fr to of dy st) dy n).2 hd h f fr to of t ∧ ∃ (hh lg nm pa : Nat) (C1 C2 : fr_C) (b1 : Nat → Nat), hh < 10 ∧ h = nI hh ∧ xLs z C C1 b b1 cI pg gr lf n an lc po (gaF (selB fr to of dy st) dy n).1 (gaF (selB fr to of dy st) dy n).2 lg nm h f ∧ xPage C1 C2 b1 u.1 cI cZ cO pg gr lf n an (lc + 1) po f lg 0 (if pg < (gaF (selB fr to of dy st) dy n).2 then pg else (gaF (selB fr to of dy st) dy n).2) t (kp (keepB ac (nI an)) (gaF (selB fr to of dy st) dy n).1 0 (if pg < (gaF (selB fr to of dy st) dy n).2 then pg else (gaF (selB fr to of dy st) dy n).2)) (0 + (if pg < (gaF (selB fr to of dy st) dy n).2 then pg else (gaF (selB fr to of dy st) dy n).2) < (gaF (selB fr to of dy st) dy n).2) dy dl mc dt tk n0 f9 pa ∧ (∀ i, i < 20 ∨ 28 ≤ i → u.1 i = b i) ∧ r = nI (kp (keepB ac (nI an)) (gaF (selB fr to of dy st) dy n).1 0 (if pg < (gaF (selB fr to of dy st) dy n).2 then pg else (gaF (selB fr to of dy st) dy n).2)).length ∧ u.2 = xAns C2 cI cP lp cs hh pa (nI (kp (keepB ac (nI an)) (gaF (selB fr to of dy st) dy n).1 0 (if pg < (gaF (selB fr to of dy st) dy n).2 then pg else (gaF (selB fr to of dy st) dy n).2)).length))) f fm r1 u1) : (∀ i, 28 ≤ i → u1.2 (0, i) = C (0, i)) ∧ ∀ i, i < 20 ∨ 28 ≤ i → u1.1 i = b i := by
  have w1 := w1
  try dsimp only at w1
  rcases w1 with ⟨-, hb1, od', hu1⟩ | ⟨-, hh, lg, nm, ad, C1, C2, b1, k1, k2, ⟨-, -, -, -, -, x7, -⟩, ⟨pn, pd, pz, nt, fn, fd, fz, -, -, -, -, -, -, -, -, p9, -⟩, hbb, -, hu1⟩
  · exact ⟨fun i hi => by rw [hu1]; exact fr_up_ne (by simp; omega), fun i _ => by rw [hb1]⟩
  · exact ⟨fun i hi => by rw [hu1]; exact (fr_up_ne (by simp; omega)).trans ((fr_up_ne (by simp; omega)).trans ((p9 i (by omega) (by omega) (by omega)).trans (x7 i (by omega) (by omega) (by omega)))), hbb⟩
set_option maxHeartbeats 4000000 in
set_option maxRecDepth 100000 in
theorem l_resume {cI cZ cJ cP cO : ClassId} {e0 : Nat} {b : Nat → Nat} {C : fr_C} {N : Nat} {pg gr lf n an lc po ps rw tk dt n0 : Nat} {th mc : Int32} {st dy dl ac hd mn si fo ol li pl pf pr pa pt rr rd rg tp md le aw cs : Nat → Int32} {lp f : Nat → Option Nat} {Fr : Nat → Nat} {o30 : Nat → Int64} (hC : CpB cI cZ cJ cP cO e0 b C N pg gr lf n an lc po ps rw tk dt n0 th mc st dy dl ac hd mn si fo ol li pl pf pr pa pt rr rd rg tp md le aw cs lp f Fr o30) {TA LG NM FF0 ML TL TQ : Nat → Nat} {PQ : Nat → Option Nat} {FN : Nat → Nat → Int32} {GG : Nat → Nat → Nat} (hTk : ∀ j, j < tk → tkOk (fun a => C (1, a)) cI cZ pg lc ps rw mn si fo ol li pl pf pr pa pt rr rd rg tp md le f Fr j (TA j) (LG j) (NM j) (FF0 j) (ML j) (TL j) (TQ j) (PQ j) (FN j) (GG j)) {h tok t r1 : Int32} {u1 : (Nat → Nat) × fr_C} (w1 : (fun (FF : Nat → Nat) (HV FO AB MD : Nat → Int32) => fun (r : Int32) (u : (Nat → Nat) × fr_C) => (((¬ inN h 10 ∧ r = -1) ∨ (inN h 10 ∧ ¬ inN t 1000000001 ∧ r = -2) ∨ (inN h 10 ∧ inN t 1000000001 ∧ ¬ inN tok tk ∧ r = -15) ∨ (∃ hh j : Nat, hh < 10 ∧ h = nI hh ∧ inN t 1000000001 ∧ j < tk ∧ tok = nI j ∧ (¬ HV j = h ∨ ¬ t ≤ MD j + nI lf) ∧ r = -15)) ∧ u = (b, C)) ∨ (∃ hh j : Nat, hh < 10 ∧ h = nI hh ∧ inN t 1000000001 ∧ j < tk ∧ tok = nI j ∧ HV j = h ∧ t ≤ MD j + nI lf ∧ ((∃ (pa : Nat) (fo' : Int32) (pn pd pz : Nat) (ct nt : Int32), PQ j = some pa ∧ C (1, pa) = some (.inr (2, [.int fo', .ref pn, .ref pd, .ref pz, .int ct, .int nt])) ∧ r = ct ∧ u = (b, xAns C cI cP lp cs hh pa ct)) ∨ (PQ j = none ∧ ∃ (pa : Nat) (C1 : fr_C), xPage C C1 b u.1 cI cZ cO pg gr lf n an lc po (FO j) (LG j) (FF j) ((if FF j + pg < ML j then FF j + pg else ML j) - FF j) t (kp (keepB ac (AB j)) (GG j) (FF j) ((if FF j + pg < ML j then FF j + pg else ML j) - FF j)) (FF j + ((if FF j + pg < ML j then FF j + pg else ML j) - FF j) < ML j) dy dl mc dt tk n0 f pa ∧ (∀ i, i < 20 ∨ 28 ≤ i → u.1 i = b i) ∧ r = nI (kp (keepB ac (AB j)) (GG j) (FF j) ((if FF j + pg < ML j then FF j + pg else ML j) - FF j)).length ∧ u.2 = xAns (fr_up C1 (1, TA j) (.inr (3, [.ref (LG j), .int (nI (FF j)), .int (MD j), .ref pa]))) cI cP lp cs hh pa (nI (kp (keepB ac (AB j)) (GG j) (FF j) ((if FF j + pg < ML j then FF j + pg else ML j) - FF j)).length))))) (fun j => FF0 j + pg) (fun j => ol (TL j)) (fun j => fo (TL j)) (fun j => si (TL j)) md r1 u1) : (∀ i, 28 ≤ i → u1.2 (0, i) = C (0, i)) ∧ ∀ i, i < 20 ∨ 28 ≤ i → u1.1 i = b i := by
  have w1 := w1
  try dsimp only at w1
  rcases w1 with ⟨-, hu1⟩ | ⟨hh, j, -, -, -, -, -, -, -, ⟨ad, fo9, pn, pd, pz, ct, nt, -, -, -, hu1⟩ | ⟨-, ad, C1, ⟨pn, pd, pz, nt, fn, fd, fz, -, -, -, -, -, -, -, -, p9, -⟩, hbb, -, hu1⟩⟩
  · exact ⟨fun i hi => by rw [hu1], fun i _ => by rw [hu1]⟩
  · exact ⟨fun i hi => by rw [hu1]; exact (fr_up_ne (by simp; omega)).trans (fr_up_ne (by simp; omega)), fun i _ => by rw [hu1]⟩
  · exact ⟨fun i hi => by rw [hu1]; exact (fr_up_ne (by simp; omega)).trans ((fr_up_ne (by simp; omega)).trans ((fr_up_ne (by simp)).trans (p9 i (by omega) (by omega) (by omega)))), hbb⟩
set_option maxHeartbeats 4000000 in
set_option maxRecDepth 100000 in
theorem lc_0 {p : Program} {l : Launch} {e : Env} {s : State} {m : MethodId} {below : List Frame} {meth : Method} {c : Code} {Q : State → Prop} {D : va_G} {cI cZ cJ cP cO : ClassId} {e0 mi sb L z : Nat} {sa : Nat → Nat} {xs : Nat → Int32} (hx : p.tables.exec = Jvm.exec) (hb : c.code = code) (hml : c.maxLocals = 7) (hown : s.vm.findClass "HarvestStepsLaw" = some m.cls) (hts : ∀ w ∈ Cond.tt :: hw_tbl, w.before #[Value.ref sb] s = true) (hK : va_K D hCl (hTy cI cZ cJ cP cO) s) (hX : fr_X z e0 mi s s.heap) (hTT : fr_T z sa s s.heap) (hl9 : l.stackTraces = false) (hSc : va_X sb L xs s s.heap) (hbl : sb < s.heap.size) (hbA : ¬ fr_A z sb) (he0 : e0 < z) (hL : L ≤ 3587) {q : Nat} (hq : 3 + 7 * q + 7 ≤ L) {b : Nat → Nat} {C : fr_C} {H : Heap} {locs : List Loc} {ls : Array Slot} (hCp : Cpl cI cZ cJ cP cO e0 b C q) (hE : fr_W D hCl z b C H) (hS : va_S (fr_A z) s.heap H locs) (hl : lv_has ls 7 [(4, .int (nI (3 + 7 * q))), (0, .ref sb), (1, .ref (b 0)), (2, .ref (b 40)), (3, .ref (b 30))])
    (kk : ∀ (b' : Nat → Nat) (C' : fr_C) (H' : Heap) (locs' : List Loc) (ls' : Array Slot), Cpl cI cZ cJ cP cO e0 b' C' (q + 1) → fr_W D hCl z b' C' H' → va_S (fr_A z) s.heap H' locs' → lv_has ls' 7 [(4, .int (nI (3 + 7 * q))), (0, .ref sb), (1, .ref (b' 0)), (2, .ref (b' 40)), (3, .ref (b' 30))] → W p l e room_1 s m #[Value.ref sb] below meth c H' locs' (35 + 8 * (q + 1)) (56376 + 2600 * (q + 1)) Q (F0 m 649 ls' [])) : W p l e room_1 s m #[Value.ref sb] below meth c H locs (35 + 8 * q) (56376 + 2600 * q) Q (F0 m 132 ls []) := by
  obtain ⟨pg, gr, lf, n, an, lc, po, ps, rw, tk, dt, n0, th, mc, st, dy, dl, ac, hd, mn, si, fo, ol, li, pl, pf, pr, pa, pt, rr, rd, rg, tp, md, le, aw, cs, lp, f, Fr, o30, hC⟩ := hCp
  obtain ⟨⟨h0, h1, h2, h3, h4, h5, ⟨od, h6⟩, h8, h9⟩, ⟨m0, m6, m7, m8, m9, m10, m12, m13, m14, m15, m16, m18, m19, m20, m21, m22, m24, m25, m26, m28, m29, m30, m31, m32⟩, ⟨h7, hls⟩, h30, hnB, hPL⟩ := id hC
  obtain ⟨g1, g2, g3, g4, g5, g6, g7, g8, g9, g10⟩ := id hnB
  obtain ⟨hr1, hr2⟩ := rw_4500 hnB
  have hN : q ≤ 512 := by omega
  have hT : ∀ w ∈ hw_tbl, w.before #[Value.ref sb] s = true := fun w h => hts w (List.mem_cons_of_mem _ h)
  refine lv_aload_n hx hb d_W_law_132 rfl (lv_at hl 2 rfl) ?_
  refine lv_aload_n hx hb d_W_law_133 rfl (lv_at hl 1 rfl) ?_
  refine lv_iload hx hb d_W_law_134 (lv_at hl 0 rfl) ?_
  refine lv_iconst (v := 1) hx hb d_W_law_136 (by decide) ?_
  refine lv_iadd hx hb d_W_law_137 ?_
  refine lv_topi (fun y_1 ey_1 => ?_)
  obtain rfl : y_1 = nI (3 + 7 * q + 1) := ey_1.trans (nI_add (3 + 7 * q) 1)
  refine va_sld hx hb hSc hbl hbA hS (i := nI (3 + 7 * q + 1)) (by rintro (y | y); exact nI_pos (by omega) y; rw [nI_clamp (by omega)] at y; omega) d_W_law_138 ?_
  rw [nI_clamp (by omega)]
  refine lv_aload_n hx hb d_W_law_139 rfl (lv_at hl 1 rfl) ?_
  refine lv_iload hx hb d_W_law_140 (lv_at hl 0 rfl) ?_
  refine lv_iconst (v := 2) hx hb d_W_law_142 (by decide) ?_
  refine lv_iadd hx hb d_W_law_143 ?_
  refine lv_topi (fun y_2 ey_2 => ?_)
  obtain rfl : y_2 = nI (3 + 7 * q + 2) := ey_2.trans (nI_add (3 + 7 * q) 2)
  refine va_sld hx hb hSc hbl hbA hS (i := nI (3 + 7 * q + 2)) (by rintro (y | y); exact nI_pos (by omega) y; rw [nI_clamp (by omega)] at y; omega) d_W_law_144 ?_
  rw [nI_clamp (by omega)]
  refine fr_calli (va_runV (As := [.int (xs (3 + 7 * q + 1)), .int (xs (3 + 7 * q + 2))]) (rest := []) ⟨hx, hb, hml, hown, hts⟩ (c_X_record l hE h0 h2 h3 h4 h5 g4 g2 (xs (3 + 7 * q + 1)) (xs (3 + 7 * q + 2))) (cwV 2 hts (hw_goodV kw_136 kw_137 kw_138 kw_21 kw_139) rfl rfl rfl (by decide +kernel) ⟨Nat.le_of_ble_eq_true rfl, Nat.le_of_ble_eq_true rfl⟩) ⟨fr_blind, fr_recv hK hE (0, 0) rfl h0 (ci := 0) rfl, fr_pre hE hK⟩ rfl rfl hl.1 rfl (lv_room (Nat.le_of_ble_eq_true rfl)) d_W_law_145 ⟨by show _ ≤ 601024; omega, by show _ ≤ 7293000; omega⟩) hS (fun r_3 u_3 H locs w_3 hE hS => ?_)
  have m0x : u_3 (0, 40) = some (.inr (5, fM b th pg gr lf an n lc ps rw tk po)) := by rcases w_3 with ⟨_, _, rfl⟩ | ⟨_, _, _, rfl⟩ | ⟨_, _, _, rfl⟩ <;> exact m0
  have m6x : u_3 (0, 46) = some (.inl (cI, 150, .inl st)) := by rcases w_3 with ⟨_, _, rfl⟩ | ⟨_, _, _, rfl⟩ | ⟨_, _, _, rfl⟩ <;> exact m6
  have m7x : u_3 (0, 47) = some (.inl (cI, 150, .inl dy)) := by rcases w_3 with ⟨_, _, rfl⟩ | ⟨_, _, _, rfl⟩ | ⟨_, _, _, rfl⟩ <;> exact m7
  have m8x : u_3 (0, 48) = some (.inl (cZ, 150, .inl dl)) := by rcases w_3 with ⟨_, _, rfl⟩ | ⟨_, _, _, rfl⟩ | ⟨_, _, _, rfl⟩ <;> exact m8
  have m9x : u_3 (0, 49) = some (.inl (cI, 150, .inl ac)) := by rcases w_3 with ⟨_, _, rfl⟩ | ⟨_, _, _, rfl⟩ | ⟨_, _, _, rfl⟩ <;> exact m9
  refine lv_aload_n hx hb d_W_law_148 rfl (lv_at hl 3 rfl) ?_
  refine lv_aload_n hx hb d_W_law_149 rfl (lv_at hl 1 rfl) ?_
  refine lv_iload hx hb d_W_law_150 (lv_at hl 0 rfl) ?_
  refine lv_iconst (v := 1) hx hb d_W_law_152 (by decide) ?_
  refine lv_iadd hx hb d_W_law_153 ?_
  refine lv_topi (fun y_4 ey_4 => ?_)
  obtain rfl : y_4 = nI (3 + 7 * q + 1) := ey_4.trans (nI_add (3 + 7 * q) 1)
  refine va_sld hx hb hSc hbl hbA hS (i := nI (3 + 7 * q + 1)) (by rintro (y | y); exact nI_pos (by omega) y; rw [nI_clamp (by omega)] at y; omega) d_W_law_154 ?_
  rw [nI_clamp (by omega)]
  refine lv_aload_n hx hb d_W_law_155 rfl (lv_at hl 1 rfl) ?_
  refine lv_iload hx hb d_W_law_156 (lv_at hl 0 rfl) ?_
  refine lv_iconst (v := 2) hx hb d_W_law_158 (by decide) ?_
  refine lv_iadd hx hb d_W_law_159 ?_
  refine lv_topi (fun y_5 ey_5 => ?_)
  obtain rfl : y_5 = nI (3 + 7 * q + 2) := ey_5.trans (nI_add (3 + 7 * q) 2)
  refine va_sld hx hb hSc hbl hbA hS (i := nI (3 + 7 * q + 2)) (by rintro (y | y); exact nI_pos (by omega) y; rw [nI_clamp (by omega)] at y; omega) d_W_law_160 ?_
  rw [nI_clamp (by omega)]
  refine fr_calli (va_runV (As := [.int (xs (3 + 7 * q + 1)), .int (xs (3 + 7 * q + 2))]) (rest := [.int r_3]) ⟨hx, hb, hml, hown, hts⟩ (c_M_record l hE m0x m6x m7x m8x m9x g4 g2 (xs (3 + 7 * q + 1)) (xs (3 + 7 * q + 2))) (cwV 2 hts (hw_goodV kw_581 kw_582 kw_583 kw_26 kw_584) rfl rfl rfl (by decide +kernel) ⟨Nat.le_of_ble_eq_true rfl, Nat.le_of_ble_eq_true rfl⟩) ⟨fr_blind, fr_recv hK hE (0, 40) rfl m0x (ci := 5) rfl, fr_pre hE hK⟩ rfl rfl hl.1 rfl (lv_room (Nat.le_of_ble_eq_true rfl)) d_W_law_161 ⟨by show _ ≤ 601024; omega, by show _ ≤ 7293000; omega⟩) hS (fun r_6 u_6 H locs w_6 hE hS => ?_)
  have hst := s_record hC  (xs (3 + 7 * q + 1)) (xs (3 + 7 * q + 2)) (r1 := r_3) (r2 := r_6) (u1 := u_3) (u2 := u_6) w_3 w_6
  refine lv_icmp_eq (tgt := 649) hx hb d_W_law_164 (by decide) (fun c_7 => ?_) (fun c_7 => ?_)
  · skip
    refine W.widen (k := (35 + 8 * (q + 1))) (n := (56376 + 2600 * (q + 1))) (by omega) (by omega) ?_
    exact kk _ _ _ _ _ hst.2 hE hS (lv_sub hl [0, 1, 2, 3, 4] rfl)
  · skip
    exact absurd c_7 (fun q9 => q9 hst.1)
set_option maxHeartbeats 4000000 in
set_option maxRecDepth 100000 in
theorem lc_1 {p : Program} {l : Launch} {e : Env} {s : State} {m : MethodId} {below : List Frame} {meth : Method} {c : Code} {Q : State → Prop} {D : va_G} {cI cZ cJ cP cO : ClassId} {e0 mi sb L z : Nat} {sa : Nat → Nat} {xs : Nat → Int32} (hx : p.tables.exec = Jvm.exec) (hb : c.code = code) (hml : c.maxLocals = 7) (hown : s.vm.findClass "HarvestStepsLaw" = some m.cls) (hts : ∀ w ∈ Cond.tt :: hw_tbl, w.before #[Value.ref sb] s = true) (hK : va_K D hCl (hTy cI cZ cJ cP cO) s) (hX : fr_X z e0 mi s s.heap) (hTT : fr_T z sa s s.heap) (hl9 : l.stackTraces = false) (hSc : va_X sb L xs s s.heap) (hbl : sb < s.heap.size) (hbA : ¬ fr_A z sb) (he0 : e0 < z) (hL : L ≤ 3587) {q : Nat} (hq : 3 + 7 * q + 7 ≤ L) {b : Nat → Nat} {C : fr_C} {H : Heap} {locs : List Loc} {ls : Array Slot} (hCp : Cpl cI cZ cJ cP cO e0 b C q) (hE : fr_W D hCl z b C H) (hS : va_S (fr_A z) s.heap H locs) (hl : lv_has ls 7 [(4, .int (nI (3 + 7 * q))), (0, .ref sb), (1, .ref (b 0)), (2, .ref (b 40)), (3, .ref (b 30))])
    (kk : ∀ (b' : Nat → Nat) (C' : fr_C) (H' : Heap) (locs' : List Loc) (ls' : Array Slot), Cpl cI cZ cJ cP cO e0 b' C' (q + 1) → fr_W D hCl z b' C' H' → va_S (fr_A z) s.heap H' locs' → lv_has ls' 7 [(4, .int (nI (3 + 7 * q))), (0, .ref sb), (1, .ref (b' 0)), (2, .ref (b' 40)), (3, .ref (b' 30))] → W p l e room_1 s m #[Value.ref sb] below meth c H' locs' (35 + 8 * (q + 1)) (56376 + 2600 * (q + 1)) Q (F0 m 649 ls' [])) : W p l e room_1 s m #[Value.ref sb] below meth c H locs (35 + 8 * q) (56376 + 2600 * q) Q (F0 m 169 ls []) := by
  obtain ⟨pg, gr, lf, n, an, lc, po, ps, rw, tk, dt, n0, th, mc, st, dy, dl, ac, hd, mn, si, fo, ol, li, pl, pf, pr, pa, pt, rr, rd, rg, tp, md, le, aw, cs, lp, f, Fr, o30, hC⟩ := hCp
  obtain ⟨⟨h0, h1, h2, h3, h4, h5, ⟨od, h6⟩, h8, h9⟩, ⟨m0, m6, m7, m8, m9, m10, m12, m13, m14, m15, m16, m18, m19, m20, m21, m22, m24, m25, m26, m28, m29, m30, m31, m32⟩, ⟨h7, hls⟩, h30, hnB, hPL⟩ := id hC
  obtain ⟨g1, g2, g3, g4, g5, g6, g7, g8, g9, g10⟩ := id hnB
  obtain ⟨hr1, hr2⟩ := rw_4500 hnB
  have hN : q ≤ 512 := by omega
  have hT : ∀ w ∈ hw_tbl, w.before #[Value.ref sb] s = true := fun w h => hts w (List.mem_cons_of_mem _ h)
  refine lv_aload_n hx hb d_W_law_169 rfl (lv_at hl 2 rfl) ?_
  refine lv_aload_n hx hb d_W_law_170 rfl (lv_at hl 1 rfl) ?_
  refine lv_iload hx hb d_W_law_171 (lv_at hl 0 rfl) ?_
  refine lv_iconst (v := 1) hx hb d_W_law_173 (by decide) ?_
  refine lv_iadd hx hb d_W_law_174 ?_
  refine lv_topi (fun y_1 ey_1 => ?_)
  obtain rfl : y_1 = nI (3 + 7 * q + 1) := ey_1.trans (nI_add (3 + 7 * q) 1)
  refine va_sld hx hb hSc hbl hbA hS (i := nI (3 + 7 * q + 1)) (by rintro (y | y); exact nI_pos (by omega) y; rw [nI_clamp (by omega)] at y; omega) d_W_law_175 ?_
  rw [nI_clamp (by omega)]
  refine lv_aload_n hx hb d_W_law_176 rfl (lv_at hl 1 rfl) ?_
  refine lv_iload hx hb d_W_law_177 (lv_at hl 0 rfl) ?_
  refine lv_iconst (v := 2) hx hb d_W_law_179 (by decide) ?_
  refine lv_iadd hx hb d_W_law_180 ?_
  refine lv_topi (fun y_2 ey_2 => ?_)
  obtain rfl : y_2 = nI (3 + 7 * q + 2) := ey_2.trans (nI_add (3 + 7 * q) 2)
  refine va_sld hx hb hSc hbl hbA hS (i := nI (3 + 7 * q + 2)) (by rintro (y | y); exact nI_pos (by omega) y; rw [nI_clamp (by omega)] at y; omega) d_W_law_181 ?_
  rw [nI_clamp (by omega)]
  refine fr_calli (va_runV (As := [.int (xs (3 + 7 * q + 1)), .int (xs (3 + 7 * q + 2))]) (rest := []) ⟨hx, hb, hml, hown, hts⟩ (c_X_change l hE h0 h3 h4 h5 g4 g2 (xs (3 + 7 * q + 1)) (xs (3 + 7 * q + 2))) (cwV 2 hts (hw_goodV kw_151 kw_152 kw_153 kw_21 kw_154) rfl rfl rfl (by decide +kernel) ⟨Nat.le_of_ble_eq_true rfl, Nat.le_of_ble_eq_true rfl⟩) ⟨fr_blind, fr_recv hK hE (0, 0) rfl h0 (ci := 0) rfl, fr_pre hE hK⟩ rfl rfl hl.1 rfl (lv_room (Nat.le_of_ble_eq_true rfl)) d_W_law_182 ⟨by show _ ≤ 601024; omega, by show _ ≤ 7293000; omega⟩) hS (fun r_3 u_3 H locs w_3 hE hS => ?_)
  have m0x : u_3 (0, 40) = some (.inr (5, fM b th pg gr lf an n lc ps rw tk po)) := by rcases w_3 with ⟨_, _, rfl⟩ | ⟨_, _, _, rfl⟩ | ⟨_, _, _, _, ⟨_, _, rfl⟩ | ⟨_, _, rfl⟩⟩ <;> exact m0
  have m7x : u_3 (0, 47) = some (.inl (cI, 150, .inl dy)) := by rcases w_3 with ⟨_, _, rfl⟩ | ⟨_, _, _, rfl⟩ | ⟨_, _, _, _, ⟨_, _, rfl⟩ | ⟨_, _, rfl⟩⟩ <;> exact m7
  have m8x : u_3 (0, 48) = some (.inl (cZ, 150, .inl dl)) := by rcases w_3 with ⟨_, _, rfl⟩ | ⟨_, _, _, rfl⟩ | ⟨_, _, _, _, ⟨_, _, rfl⟩ | ⟨_, _, rfl⟩⟩ <;> exact m8
  have m9x : u_3 (0, 49) = some (.inl (cI, 150, .inl ac)) := by rcases w_3 with ⟨_, _, rfl⟩ | ⟨_, _, _, rfl⟩ | ⟨_, _, _, _, ⟨_, _, rfl⟩ | ⟨_, _, rfl⟩⟩ <;> exact m9
  refine lv_aload_n hx hb d_W_law_185 rfl (lv_at hl 3 rfl) ?_
  refine lv_aload_n hx hb d_W_law_186 rfl (lv_at hl 1 rfl) ?_
  refine lv_iload hx hb d_W_law_187 (lv_at hl 0 rfl) ?_
  refine lv_iconst (v := 1) hx hb d_W_law_189 (by decide) ?_
  refine lv_iadd hx hb d_W_law_190 ?_
  refine lv_topi (fun y_4 ey_4 => ?_)
  obtain rfl : y_4 = nI (3 + 7 * q + 1) := ey_4.trans (nI_add (3 + 7 * q) 1)
  refine va_sld hx hb hSc hbl hbA hS (i := nI (3 + 7 * q + 1)) (by rintro (y | y); exact nI_pos (by omega) y; rw [nI_clamp (by omega)] at y; omega) d_W_law_191 ?_
  rw [nI_clamp (by omega)]
  refine lv_aload_n hx hb d_W_law_192 rfl (lv_at hl 1 rfl) ?_
  refine lv_iload hx hb d_W_law_193 (lv_at hl 0 rfl) ?_
  refine lv_iconst (v := 2) hx hb d_W_law_195 (by decide) ?_
  refine lv_iadd hx hb d_W_law_196 ?_
  refine lv_topi (fun y_5 ey_5 => ?_)
  obtain rfl : y_5 = nI (3 + 7 * q + 2) := ey_5.trans (nI_add (3 + 7 * q) 2)
  refine va_sld hx hb hSc hbl hbA hS (i := nI (3 + 7 * q + 2)) (by rintro (y | y); exact nI_pos (by omega) y; rw [nI_clamp (by omega)] at y; omega) d_W_law_197 ?_
  rw [nI_clamp (by omega)]
  refine fr_calli (va_runV (As := [.int (xs (3 + 7 * q + 1)), .int (xs (3 + 7 * q + 2))]) (rest := [.int r_3]) ⟨hx, hb, hml, hown, hts⟩ (c_M_change l hE m0x m7x m8x m9x g4 g2 (xs (3 + 7 * q + 1)) (xs (3 + 7 * q + 2))) (cwV 2 hts (hw_goodV kw_596 kw_597 kw_598 kw_26 kw_599) rfl rfl rfl (by decide +kernel) ⟨Nat.le_of_ble_eq_true rfl, Nat.le_of_ble_eq_true rfl⟩) ⟨fr_blind, fr_recv hK hE (0, 40) rfl m0x (ci := 5) rfl, fr_pre hE hK⟩ rfl rfl hl.1 rfl (lv_room (Nat.le_of_ble_eq_true rfl)) d_W_law_198 ⟨by show _ ≤ 601024; omega, by show _ ≤ 7293000; omega⟩) hS (fun r_6 u_6 H locs w_6 hE hS => ?_)
  have hst := s_change hC  (xs (3 + 7 * q + 1)) (xs (3 + 7 * q + 2)) (r1 := r_3) (r2 := r_6) (u1 := u_3) (u2 := u_6) w_3 w_6
  refine lv_icmp_eq (tgt := 649) hx hb d_W_law_201 (by decide) (fun c_7 => ?_) (fun c_7 => ?_)
  · skip
    refine W.widen (k := (35 + 8 * (q + 1))) (n := (56376 + 2600 * (q + 1))) (by omega) (by omega) ?_
    exact kk _ _ _ _ _ hst.2 hE hS (lv_sub hl [0, 1, 2, 3, 4] rfl)
  · skip
    exact absurd c_7 (fun q9 => q9 hst.1)
set_option maxHeartbeats 4000000 in
set_option maxRecDepth 100000 in
theorem lc_2 {p : Program} {l : Launch} {e : Env} {s : State} {m : MethodId} {below : List Frame} {meth : Method} {c : Code} {Q : State → Prop} {D : va_G} {cI cZ cJ cP cO : ClassId} {e0 mi sb L z : Nat} {sa : Nat → Nat} {xs : Nat → Int32} (hx : p.tables.exec = Jvm.exec) (hb : c.code = code) (hml : c.maxLocals = 7) (hown : s.vm.findClass "HarvestStepsLaw" = some m.cls) (hts : ∀ w ∈ Cond.tt :: hw_tbl, w.before #[Value.ref sb] s = true) (hK : va_K D hCl (hTy cI cZ cJ cP cO) s) (hX : fr_X z e0 mi s s.heap) (hTT : fr_T z sa s s.heap) (hl9 : l.stackTraces = false) (hSc : va_X sb L xs s s.heap) (hbl : sb < s.heap.size) (hbA : ¬ fr_A z sb) (he0 : e0 < z) (hL : L ≤ 3587) {q : Nat} (hq : 3 + 7 * q + 7 ≤ L) {b : Nat → Nat} {C : fr_C} {H : Heap} {locs : List Loc} {ls : Array Slot} (hCp : Cpl cI cZ cJ cP cO e0 b C q) (hE : fr_W D hCl z b C H) (hS : va_S (fr_A z) s.heap H locs) (hl : lv_has ls 7 [(4, .int (nI (3 + 7 * q))), (0, .ref sb), (1, .ref (b 0)), (2, .ref (b 40)), (3, .ref (b 30))])
    (kk : ∀ (b' : Nat → Nat) (C' : fr_C) (H' : Heap) (locs' : List Loc) (ls' : Array Slot), Cpl cI cZ cJ cP cO e0 b' C' (q + 1) → fr_W D hCl z b' C' H' → va_S (fr_A z) s.heap H' locs' → lv_has ls' 7 [(4, .int (nI (3 + 7 * q))), (0, .ref sb), (1, .ref (b' 0)), (2, .ref (b' 40)), (3, .ref (b' 30))] → W p l e room_1 s m #[Value.ref sb] below meth c H' locs' (35 + 8 * (q + 1)) (56376 + 2600 * (q + 1)) Q (F0 m 649 ls' [])) : W p l e room_1 s m #[Value.ref sb] below meth c H locs (35 + 8 * q) (56376 + 2600 * q) Q (F0 m 206 ls []) := by
  obtain ⟨pg, gr, lf, n, an, lc, po, ps, rw, tk, dt, n0, th, mc, st, dy, dl, ac, hd, mn, si, fo, ol, li, pl, pf, pr, pa, pt, rr, rd, rg, tp, md, le, aw, cs, lp, f, Fr, o30, hC⟩ := hCp
  obtain ⟨⟨h0, h1, h2, h3, h4, h5, ⟨od, h6⟩, h8, h9⟩, ⟨m0, m6, m7, m8, m9, m10, m12, m13, m14, m15, m16, m18, m19, m20, m21, m22, m24, m25, m26, m28, m29, m30, m31, m32⟩, ⟨h7, hls⟩, h30, hnB, hPL⟩ := id hC
  obtain ⟨g1, g2, g3, g4, g5, g6, g7, g8, g9, g10⟩ := id hnB
  obtain ⟨hr1, hr2⟩ := rw_4500 hnB
  have hN : q ≤ 512 := by omega
  have hT : ∀ w ∈ hw_tbl, w.before #[Value.ref sb] s = true := fun w h => hts w (List.mem_cons_of_mem _ h)
  refine lv_aload_n hx hb d_W_law_206 rfl (lv_at hl 2 rfl) ?_
  refine lv_aload_n hx hb d_W_law_207 rfl (lv_at hl 1 rfl) ?_
  refine lv_iload hx hb d_W_law_208 (lv_at hl 0 rfl) ?_
  refine lv_iconst (v := 1) hx hb d_W_law_210 (by decide) ?_
  refine lv_iadd hx hb d_W_law_211 ?_
  refine lv_topi (fun y_1 ey_1 => ?_)
  obtain rfl : y_1 = nI (3 + 7 * q + 1) := ey_1.trans (nI_add (3 + 7 * q) 1)
  refine va_sld hx hb hSc hbl hbA hS (i := nI (3 + 7 * q + 1)) (by rintro (y | y); exact nI_pos (by omega) y; rw [nI_clamp (by omega)] at y; omega) d_W_law_212 ?_
  rw [nI_clamp (by omega)]
  refine lv_aload_n hx hb d_W_law_213 rfl (lv_at hl 1 rfl) ?_
  refine lv_iload hx hb d_W_law_214 (lv_at hl 0 rfl) ?_
  refine lv_iconst (v := 2) hx hb d_W_law_216 (by decide) ?_
  refine lv_iadd hx hb d_W_law_217 ?_
  refine lv_topi (fun y_2 ey_2 => ?_)
  obtain rfl : y_2 = nI (3 + 7 * q + 2) := ey_2.trans (nI_add (3 + 7 * q) 2)
  refine va_sld hx hb hSc hbl hbA hS (i := nI (3 + 7 * q + 2)) (by rintro (y | y); exact nI_pos (by omega) y; rw [nI_clamp (by omega)] at y; omega) d_W_law_218 ?_
  rw [nI_clamp (by omega)]
  refine fr_calli (va_runV (As := [.int (xs (3 + 7 * q + 1)), .int (xs (3 + 7 * q + 2))]) (rest := []) ⟨hx, hb, hml, hown, hts⟩ (c_X_delete l hE h0 h3 h4 h5 g4 g2 (xs (3 + 7 * q + 1)) (xs (3 + 7 * q + 2))) (cwV 2 hts (hw_goodV kw_159 kw_160 kw_161 kw_21 kw_162) rfl rfl rfl (by decide +kernel) ⟨Nat.le_of_ble_eq_true rfl, Nat.le_of_ble_eq_true rfl⟩) ⟨fr_blind, fr_recv hK hE (0, 0) rfl h0 (ci := 0) rfl, fr_pre hE hK⟩ rfl rfl hl.1 rfl (lv_room (Nat.le_of_ble_eq_true rfl)) d_W_law_219 ⟨by show _ ≤ 601024; omega, by show _ ≤ 7293000; omega⟩) hS (fun r_3 u_3 H locs w_3 hE hS => ?_)
  have m0x : u_3 (0, 40) = some (.inr (5, fM b th pg gr lf an n lc ps rw tk po)) := by rcases w_3 with ⟨_, _, rfl⟩ | ⟨_, _, _, rfl⟩ | ⟨_, _, _, _, ⟨_, _, rfl⟩ | ⟨_, _, rfl⟩⟩ <;> exact m0
  have m7x : u_3 (0, 47) = some (.inl (cI, 150, .inl dy)) := by rcases w_3 with ⟨_, _, rfl⟩ | ⟨_, _, _, rfl⟩ | ⟨_, _, _, _, ⟨_, _, rfl⟩ | ⟨_, _, rfl⟩⟩ <;> exact m7
  have m8x : u_3 (0, 48) = some (.inl (cZ, 150, .inl dl)) := by rcases w_3 with ⟨_, _, rfl⟩ | ⟨_, _, _, rfl⟩ | ⟨_, _, _, _, ⟨_, _, rfl⟩ | ⟨_, _, rfl⟩⟩ <;> exact m8
  have m9x : u_3 (0, 49) = some (.inl (cI, 150, .inl ac)) := by rcases w_3 with ⟨_, _, rfl⟩ | ⟨_, _, _, rfl⟩ | ⟨_, _, _, _, ⟨_, _, rfl⟩ | ⟨_, _, rfl⟩⟩ <;> exact m9
  refine lv_aload_n hx hb d_W_law_222 rfl (lv_at hl 3 rfl) ?_
  refine lv_aload_n hx hb d_W_law_223 rfl (lv_at hl 1 rfl) ?_
  refine lv_iload hx hb d_W_law_224 (lv_at hl 0 rfl) ?_
  refine lv_iconst (v := 1) hx hb d_W_law_226 (by decide) ?_
  refine lv_iadd hx hb d_W_law_227 ?_
  refine lv_topi (fun y_4 ey_4 => ?_)
  obtain rfl : y_4 = nI (3 + 7 * q + 1) := ey_4.trans (nI_add (3 + 7 * q) 1)
  refine va_sld hx hb hSc hbl hbA hS (i := nI (3 + 7 * q + 1)) (by rintro (y | y); exact nI_pos (by omega) y; rw [nI_clamp (by omega)] at y; omega) d_W_law_228 ?_
  rw [nI_clamp (by omega)]
  refine lv_aload_n hx hb d_W_law_229 rfl (lv_at hl 1 rfl) ?_
  refine lv_iload hx hb d_W_law_230 (lv_at hl 0 rfl) ?_
  refine lv_iconst (v := 2) hx hb d_W_law_232 (by decide) ?_
  refine lv_iadd hx hb d_W_law_233 ?_
  refine lv_topi (fun y_5 ey_5 => ?_)
  obtain rfl : y_5 = nI (3 + 7 * q + 2) := ey_5.trans (nI_add (3 + 7 * q) 2)
  refine va_sld hx hb hSc hbl hbA hS (i := nI (3 + 7 * q + 2)) (by rintro (y | y); exact nI_pos (by omega) y; rw [nI_clamp (by omega)] at y; omega) d_W_law_234 ?_
  rw [nI_clamp (by omega)]
  refine fr_calli (va_runV (As := [.int (xs (3 + 7 * q + 1)), .int (xs (3 + 7 * q + 2))]) (rest := [.int r_3]) ⟨hx, hb, hml, hown, hts⟩ (c_M_delete l hE m0x m7x m8x m9x g4 g2 (xs (3 + 7 * q + 1)) (xs (3 + 7 * q + 2))) (cwV 2 hts (hw_goodV kw_604 kw_605 kw_606 kw_26 kw_607) rfl rfl rfl (by decide +kernel) ⟨Nat.le_of_ble_eq_true rfl, Nat.le_of_ble_eq_true rfl⟩) ⟨fr_blind, fr_recv hK hE (0, 40) rfl m0x (ci := 5) rfl, fr_pre hE hK⟩ rfl rfl hl.1 rfl (lv_room (Nat.le_of_ble_eq_true rfl)) d_W_law_235 ⟨by show _ ≤ 601024; omega, by show _ ≤ 7293000; omega⟩) hS (fun r_6 u_6 H locs w_6 hE hS => ?_)
  have hst := s_delete hC  (xs (3 + 7 * q + 1)) (xs (3 + 7 * q + 2)) (r1 := r_3) (r2 := r_6) (u1 := u_3) (u2 := u_6) w_3 w_6
  refine lv_icmp_eq (tgt := 649) hx hb d_W_law_238 (by decide) (fun c_7 => ?_) (fun c_7 => ?_)
  · skip
    refine W.widen (k := (35 + 8 * (q + 1))) (n := (56376 + 2600 * (q + 1))) (by omega) (by omega) ?_
    exact kk _ _ _ _ _ hst.2 hE hS (lv_sub hl [0, 1, 2, 3, 4] rfl)
  · skip
    exact absurd c_7 (fun q9 => q9 hst.1)
set_option maxHeartbeats 4000000 in
set_option maxRecDepth 100000 in
theorem lc_3 {p : Program} {l : Launch} {e : Env} {s : State} {m : MethodId} {below : List Frame} {meth : Method} {c : Code} {Q : State → Prop} {D : va_G} {cI cZ cJ cP cO : ClassId} {e0 mi sb L z : Nat} {sa : Nat → Nat} {xs : Nat → Int32} (hx : p.tables.exec = Jvm.exec) (hb : c.code = code) (hml : c.maxLocals = 7) (hown : s.vm.findClass "HarvestStepsLaw" = some m.cls) (hts : ∀ w ∈ Cond.tt :: hw_tbl, w.before #[Value.ref sb] s = true) (hK : va_K D hCl (hTy cI cZ cJ cP cO) s) (hX : fr_X z e0 mi s s.heap) (hTT : fr_T z sa s s.heap) (hl9 : l.stackTraces = false) (hSc : va_X sb L xs s s.heap) (hbl : sb < s.heap.size) (hbA : ¬ fr_A z sb) (he0 : e0 < z) (hL : L ≤ 3587) {q : Nat} (hq : 3 + 7 * q + 7 ≤ L) {b : Nat → Nat} {C : fr_C} {H : Heap} {locs : List Loc} {ls : Array Slot} (hCp : Cpl cI cZ cJ cP cO e0 b C q) (hE : fr_W D hCl z b C H) (hS : va_S (fr_A z) s.heap H locs) (hl : lv_has ls 7 [(4, .int (nI (3 + 7 * q))), (0, .ref sb), (1, .ref (b 0)), (2, .ref (b 40)), (3, .ref (b 30))])
    (kk : ∀ (b' : Nat → Nat) (C' : fr_C) (H' : Heap) (locs' : List Loc) (ls' : Array Slot), Cpl cI cZ cJ cP cO e0 b' C' (q + 1) → fr_W D hCl z b' C' H' → va_S (fr_A z) s.heap H' locs' → lv_has ls' 7 [(4, .int (nI (3 + 7 * q))), (0, .ref sb), (1, .ref (b' 0)), (2, .ref (b' 40)), (3, .ref (b' 30))] → W p l e room_1 s m #[Value.ref sb] below meth c H' locs' (35 + 8 * (q + 1)) (56376 + 2600 * (q + 1)) Q (F0 m 649 ls' [])) : W p l e room_1 s m #[Value.ref sb] below meth c H locs (35 + 8 * q) (56376 + 2600 * q) Q (F0 m 243 ls []) := by
  obtain ⟨pg, gr, lf, n, an, lc, po, ps, rw, tk, dt, n0, th, mc, st, dy, dl, ac, hd, mn, si, fo, ol, li, pl, pf, pr, pa, pt, rr, rd, rg, tp, md, le, aw, cs, lp, f, Fr, o30, hC⟩ := hCp
  obtain ⟨⟨h0, h1, h2, h3, h4, h5, ⟨od, h6⟩, h8, h9⟩, ⟨m0, m6, m7, m8, m9, m10, m12, m13, m14, m15, m16, m18, m19, m20, m21, m22, m24, m25, m26, m28, m29, m30, m31, m32⟩, ⟨h7, hls⟩, h30, hnB, hPL⟩ := id hC
  obtain ⟨g1, g2, g3, g4, g5, g6, g7, g8, g9, g10⟩ := id hnB
  obtain ⟨hr1, hr2⟩ := rw_4500 hnB
  have hN : q ≤ 512 := by omega
  have hT : ∀ w ∈ hw_tbl, w.before #[Value.ref sb] s = true := fun w h => hts w (List.mem_cons_of_mem _ h)
  refine lv_aload_n hx hb d_W_law_243 rfl (lv_at hl 2 rfl) ?_
  refine lv_aload_n hx hb d_W_law_244 rfl (lv_at hl 1 rfl) ?_
  refine lv_iload hx hb d_W_law_245 (lv_at hl 0 rfl) ?_
  refine lv_iconst (v := 1) hx hb d_W_law_247 (by decide) ?_
  refine lv_iadd hx hb d_W_law_248 ?_
  refine lv_topi (fun y_1 ey_1 => ?_)
  obtain rfl : y_1 = nI (3 + 7 * q + 1) := ey_1.trans (nI_add (3 + 7 * q) 1)
  refine va_sld hx hb hSc hbl hbA hS (i := nI (3 + 7 * q + 1)) (by rintro (y | y); exact nI_pos (by omega) y; rw [nI_clamp (by omega)] at y; omega) d_W_law_249 ?_
  rw [nI_clamp (by omega)]
  refine lv_aload_n hx hb d_W_law_250 rfl (lv_at hl 1 rfl) ?_
  refine lv_iload hx hb d_W_law_251 (lv_at hl 0 rfl) ?_
  refine lv_iconst (v := 2) hx hb d_W_law_253 (by decide) ?_
  refine lv_iadd hx hb d_W_law_254 ?_
  refine lv_topi (fun y_2 ey_2 => ?_)
  obtain rfl : y_2 = nI (3 + 7 * q + 2) := ey_2.trans (nI_add (3 + 7 * q) 2)
  refine va_sld hx hb hSc hbl hbA hS (i := nI (3 + 7 * q + 2)) (by rintro (y | y); exact nI_pos (by omega) y; rw [nI_clamp (by omega)] at y; omega) d_W_law_255 ?_
  rw [nI_clamp (by omega)]
  refine lv_if_eq (tgt := 263) hx hb d_W_law_256 (by decide) (fun c_3 => ?_) (fun c_3 => ?_)
  · skip
    refine lv_iconst (v := 0) hx hb d_W_law_263 (by decide) ?_
    refine fr_calli (va_runV (As := [.int (xs (3 + 7 * q + 1)), .int 0]) (rest := []) ⟨hx, hb, hml, hown, hts⟩ (c_X_form l hE h0 h1 (xs (3 + 7 * q + 1)) 0 (by decide)) (cwV 2 hts (hw_goodV kw_163 kw_164 kw_165 kw_21 kw_166) rfl rfl rfl (by decide +kernel) ⟨Nat.le_of_ble_eq_true rfl, Nat.le_of_ble_eq_true rfl⟩) ⟨fr_blind, fr_recv hK hE (0, 0) rfl h0 (ci := 0) rfl, fr_pre hE hK⟩ rfl rfl hl.1 rfl (lv_room (Nat.le_of_ble_eq_true rfl)) d_W_law_264 ⟨by show _ ≤ 601024; omega, by show _ ≤ 7293000; omega⟩) hS (fun r_4 u_4 H locs w_4 hE hS => ?_)
    have m0x : u_4 (0, 40) = some (.inr (5, fM b th pg gr lf an n lc ps rw tk po)) := by rcases w_4 with ⟨_, _, rfl⟩ | ⟨_, _, _, _, rfl⟩ <;> exact m0
    have m10x : u_4 (0, 50) = some (.inl (cZ, 6, .inl hd)) := by rcases w_4 with ⟨_, _, rfl⟩ | ⟨_, _, _, _, rfl⟩ <;> exact m10
    refine lv_aload_n hx hb d_W_law_267 rfl (lv_at hl 3 rfl) ?_
    refine lv_aload_n hx hb d_W_law_268 rfl (lv_at hl 1 rfl) ?_
    refine lv_iload hx hb d_W_law_269 (lv_at hl 0 rfl) ?_
    refine lv_iconst (v := 1) hx hb d_W_law_271 (by decide) ?_
    refine lv_iadd hx hb d_W_law_272 ?_
    refine lv_topi (fun y_5 ey_5 => ?_)
    obtain rfl : y_5 = nI (3 + 7 * q + 1) := ey_5.trans (nI_add (3 + 7 * q) 1)
    refine va_sld hx hb hSc hbl hbA hS (i := nI (3 + 7 * q + 1)) (by rintro (y | y); exact nI_pos (by omega) y; rw [nI_clamp (by omega)] at y; omega) d_W_law_273 ?_
    rw [nI_clamp (by omega)]
    refine lv_aload_n hx hb d_W_law_274 rfl (lv_at hl 1 rfl) ?_
    refine lv_iload hx hb d_W_law_275 (lv_at hl 0 rfl) ?_
    refine lv_iconst (v := 2) hx hb d_W_law_277 (by decide) ?_
    refine lv_iadd hx hb d_W_law_278 ?_
    refine lv_topi (fun y_6 ey_6 => ?_)
    obtain rfl : y_6 = nI (3 + 7 * q + 2) := ey_6.trans (nI_add (3 + 7 * q) 2)
    refine va_sld hx hb hSc hbl hbA hS (i := nI (3 + 7 * q + 2)) (by rintro (y | y); exact nI_pos (by omega) y; rw [nI_clamp (by omega)] at y; omega) d_W_law_279 ?_
    rw [nI_clamp (by omega)]
    refine lv_if_eq (tgt := 287) hx hb d_W_law_280 (by decide) (fun c_7 => ?_) (fun c_7 => ?_)
    · skip
      refine lv_iconst (v := 0) hx hb d_W_law_287 (by decide) ?_
      refine fr_calli (va_runV (As := [.int (xs (3 + 7 * q + 1)), .int 0]) (rest := [.int r_4]) ⟨hx, hb, hml, hown, hts⟩ (c_M_form l hE m0x m10x (xs (3 + 7 * q + 1)) 0 (by decide)) (cwV 2 hts (hw_goodV kw_608 kw_609 kw_610 kw_26 kw_611) rfl rfl rfl (by decide +kernel) ⟨Nat.le_of_ble_eq_true rfl, Nat.le_of_ble_eq_true rfl⟩) ⟨fr_blind, fr_recv hK hE (0, 40) rfl m0x (ci := 5) rfl, fr_pre hE hK⟩ rfl rfl hl.1 rfl (lv_room (Nat.le_of_ble_eq_true rfl)) d_W_law_288 ⟨by show _ ≤ 601024; omega, by show _ ≤ 7293000; omega⟩) hS (fun r_8 u_8 H locs w_8 hE hS => ?_)
      have hst := s_form hC  (xs (3 + 7 * q + 1)) 0 (r1 := r_4) (r2 := r_8) (u1 := u_4) (u2 := u_8) w_4 w_8
      refine lv_icmp_eq (tgt := 649) hx hb d_W_law_291 (by decide) (fun c_9 => ?_) (fun c_9 => ?_)
      · skip
        refine W.widen (k := (35 + 8 * (q + 1))) (n := (56376 + 2600 * (q + 1))) (by omega) (by omega) ?_
        exact kk _ _ _ _ _ hst.2 hE hS (lv_sub hl [0, 1, 2, 3, 4] rfl)
      · skip
        exact absurd c_9 (fun q9 => q9 hst.1)
    · skip
      exact absurd c_7 (fun q9 => q9 c_3)
  · skip
    refine lv_iconst (v := 1) hx hb d_W_law_259 (by decide) ?_
    refine lv_goto (tgt := 264) hx hb d_W_law_260 (by decide) ?_
    refine fr_calli (va_runV (As := [.int (xs (3 + 7 * q + 1)), .int 1]) (rest := []) ⟨hx, hb, hml, hown, hts⟩ (c_X_form l hE h0 h1 (xs (3 + 7 * q + 1)) 1 (by decide)) (cwV 2 hts (hw_goodV kw_163 kw_164 kw_165 kw_21 kw_166) rfl rfl rfl (by decide +kernel) ⟨Nat.le_of_ble_eq_true rfl, Nat.le_of_ble_eq_true rfl⟩) ⟨fr_blind, fr_recv hK hE (0, 0) rfl h0 (ci := 0) rfl, fr_pre hE hK⟩ rfl rfl hl.1 rfl (lv_room (Nat.le_of_ble_eq_true rfl)) d_W_law_264 ⟨by show _ ≤ 601024; omega, by show _ ≤ 7293000; omega⟩) hS (fun r_10 u_10 H locs w_10 hE hS => ?_)
    have m0x : u_10 (0, 40) = some (.inr (5, fM b th pg gr lf an n lc ps rw tk po)) := by rcases w_10 with ⟨_, _, rfl⟩ | ⟨_, _, _, _, rfl⟩ <;> exact m0
    have m10x : u_10 (0, 50) = some (.inl (cZ, 6, .inl hd)) := by rcases w_10 with ⟨_, _, rfl⟩ | ⟨_, _, _, _, rfl⟩ <;> exact m10
    refine lv_aload_n hx hb d_W_law_267 rfl (lv_at hl 3 rfl) ?_
    refine lv_aload_n hx hb d_W_law_268 rfl (lv_at hl 1 rfl) ?_
    refine lv_iload hx hb d_W_law_269 (lv_at hl 0 rfl) ?_
    refine lv_iconst (v := 1) hx hb d_W_law_271 (by decide) ?_
    refine lv_iadd hx hb d_W_law_272 ?_
    refine lv_topi (fun y_11 ey_11 => ?_)
    obtain rfl : y_11 = nI (3 + 7 * q + 1) := ey_11.trans (nI_add (3 + 7 * q) 1)
    refine va_sld hx hb hSc hbl hbA hS (i := nI (3 + 7 * q + 1)) (by rintro (y | y); exact nI_pos (by omega) y; rw [nI_clamp (by omega)] at y; omega) d_W_law_273 ?_
    rw [nI_clamp (by omega)]
    refine lv_aload_n hx hb d_W_law_274 rfl (lv_at hl 1 rfl) ?_
    refine lv_iload hx hb d_W_law_275 (lv_at hl 0 rfl) ?_
    refine lv_iconst (v := 2) hx hb d_W_law_277 (by decide) ?_
    refine lv_iadd hx hb d_W_law_278 ?_
    refine lv_topi (fun y_12 ey_12 => ?_)
    obtain rfl : y_12 = nI (3 + 7 * q + 2) := ey_12.trans (nI_add (3 + 7 * q) 2)
    refine va_sld hx hb hSc hbl hbA hS (i := nI (3 + 7 * q + 2)) (by rintro (y | y); exact nI_pos (by omega) y; rw [nI_clamp (by omega)] at y; omega) d_W_law_279 ?_
    rw [nI_clamp (by omega)]
    refine lv_if_eq (tgt := 287) hx hb d_W_law_280 (by decide) (fun c_13 => ?_) (fun c_13 => ?_)
    · skip
      exact absurd c_13 (c_3)
    · skip
      refine lv_iconst (v := 1) hx hb d_W_law_283 (by decide) ?_
      refine lv_goto (tgt := 288) hx hb d_W_law_284 (by decide) ?_
      refine fr_calli (va_runV (As := [.int (xs (3 + 7 * q + 1)), .int 1]) (rest := [.int r_10]) ⟨hx, hb, hml, hown, hts⟩ (c_M_form l hE m0x m10x (xs (3 + 7 * q + 1)) 1 (by decide)) (cwV 2 hts (hw_goodV kw_608 kw_609 kw_610 kw_26 kw_611) rfl rfl rfl (by decide +kernel) ⟨Nat.le_of_ble_eq_true rfl, Nat.le_of_ble_eq_true rfl⟩) ⟨fr_blind, fr_recv hK hE (0, 40) rfl m0x (ci := 5) rfl, fr_pre hE hK⟩ rfl rfl hl.1 rfl (lv_room (Nat.le_of_ble_eq_true rfl)) d_W_law_288 ⟨by show _ ≤ 601024; omega, by show _ ≤ 7293000; omega⟩) hS (fun r_14 u_14 H locs w_14 hE hS => ?_)
      have hst := s_form hC  (xs (3 + 7 * q + 1)) 1 (r1 := r_10) (r2 := r_14) (u1 := u_10) (u2 := u_14) w_10 w_14
      refine lv_icmp_eq (tgt := 649) hx hb d_W_law_291 (by decide) (fun c_15 => ?_) (fun c_15 => ?_)
      · skip
        refine W.widen (k := (35 + 8 * (q + 1))) (n := (56376 + 2600 * (q + 1))) (by omega) (by omega) ?_
        exact kk _ _ _ _ _ hst.2 hE hS (lv_sub hl [0, 1, 2, 3, 4] rfl)
      · skip
        exact absurd c_15 (fun q9 => q9 hst.1)
set_option maxHeartbeats 4000000 in
set_option maxRecDepth 100000 in
theorem lc_4 {p : Program} {l : Launch} {e : Env} {s : State} {m : MethodId} {below : List Frame} {meth : Method} {c : Code} {Q : State → Prop} {D : va_G} {cI cZ cJ cP cO : ClassId} {e0 mi sb L z : Nat} {sa : Nat → Nat} {xs : Nat → Int32} (hx : p.tables.exec = Jvm.exec) (hb : c.code = code) (hml : c.maxLocals = 7) (hown : s.vm.findClass "HarvestStepsLaw" = some m.cls) (hts : ∀ w ∈ Cond.tt :: hw_tbl, w.before #[Value.ref sb] s = true) (hK : va_K D hCl (hTy cI cZ cJ cP cO) s) (hX : fr_X z e0 mi s s.heap) (hTT : fr_T z sa s s.heap) (hl9 : l.stackTraces = false) (hSc : va_X sb L xs s s.heap) (hbl : sb < s.heap.size) (hbA : ¬ fr_A z sb) (he0 : e0 < z) (hL : L ≤ 3587) {q : Nat} (hq : 3 + 7 * q + 7 ≤ L) {b : Nat → Nat} {C : fr_C} {H : Heap} {locs : List Loc} {ls : Array Slot} (hCp : Cpl cI cZ cJ cP cO e0 b C q) (hE : fr_W D hCl z b C H) (hS : va_S (fr_A z) s.heap H locs) (hl : lv_has ls 7 [(4, .int (nI (3 + 7 * q))), (0, .ref sb), (1, .ref (b 0)), (2, .ref (b 40)), (3, .ref (b 30))])
    (kk : ∀ (b' : Nat → Nat) (C' : fr_C) (H' : Heap) (locs' : List Loc) (ls' : Array Slot), Cpl cI cZ cJ cP cO e0 b' C' (q + 1) → fr_W D hCl z b' C' H' → va_S (fr_A z) s.heap H' locs' → lv_has ls' 7 [(4, .int (nI (3 + 7 * q))), (0, .ref sb), (1, .ref (b' 0)), (2, .ref (b' 40)), (3, .ref (b' 30))] → W p l e room_1 s m #[Value.ref sb] below meth c H' locs' (35 + 8 * (q + 1)) (56376 + 2600 * (q + 1)) Q (F0 m 649 ls' [])) : W p l e room_1 s m #[Value.ref sb] below meth c H locs (35 + 8 * q) (56376 + 2600 * q) Q (F0 m 296 ls []) := by
  obtain ⟨pg, gr, lf, n, an, lc, po, ps, rw, tk, dt, n0, th, mc, st, dy, dl, ac, hd, mn, si, fo, ol, li, pl, pf, pr, pa, pt, rr, rd, rg, tp, md, le, aw, cs, lp, f, Fr, o30, hC⟩ := hCp
  obtain ⟨⟨h0, h1, h2, h3, h4, h5, ⟨od, h6⟩, h8, h9⟩, ⟨m0, m6, m7, m8, m9, m10, m12, m13, m14, m15, m16, m18, m19, m20, m21, m22, m24, m25, m26, m28, m29, m30, m31, m32⟩, ⟨h7, hls⟩, h30, hnB, hPL⟩ := id hC
  obtain ⟨g1, g2, g3, g4, g5, g6, g7, g8, g9, g10⟩ := id hnB
  obtain ⟨hr1, hr2⟩ := rw_4500 hnB
  have hN : q ≤ 512 := by omega
  have hT : ∀ w ∈ hw_tbl, w.before #[Value.ref sb] s = true := fun w h => hts w (List.mem_cons_of_mem _ h)
  have hE0 := hE
  refine lv_aload_n hx hb d_W_law_296 rfl (lv_at hl 2 rfl) ?_
  refine lv_aload_n hx hb d_W_law_297 rfl (lv_at hl 1 rfl) ?_
  refine lv_iload hx hb d_W_law_298 (lv_at hl 0 rfl) ?_
  refine lv_iconst (v := 1) hx hb d_W_law_300 (by decide) ?_
  refine lv_iadd hx hb d_W_law_301 ?_
  refine lv_topi (fun y_1 ey_1 => ?_)
  obtain rfl : y_1 = nI (3 + 7 * q + 1) := ey_1.trans (nI_add (3 + 7 * q) 1)
  refine va_sld hx hb hSc hbl hbA hS (i := nI (3 + 7 * q + 1)) (by rintro (y | y); exact nI_pos (by omega) y; rw [nI_clamp (by omega)] at y; omega) d_W_law_302 ?_
  rw [nI_clamp (by omega)]
  refine lv_aload_n hx hb d_W_law_303 rfl (lv_at hl 1 rfl) ?_
  refine lv_iload hx hb d_W_law_304 (lv_at hl 0 rfl) ?_
  refine lv_iconst (v := 2) hx hb d_W_law_306 (by decide) ?_
  refine lv_iadd hx hb d_W_law_307 ?_
  refine lv_topi (fun y_2 ey_2 => ?_)
  obtain rfl : y_2 = nI (3 + 7 * q + 2) := ey_2.trans (nI_add (3 + 7 * q) 2)
  refine va_sld hx hb hSc hbl hbA hS (i := nI (3 + 7 * q + 2)) (by rintro (y | y); exact nI_pos (by omega) y; rw [nI_clamp (by omega)] at y; omega) d_W_law_308 ?_
  rw [nI_clamp (by omega)]
  refine lv_aload_n hx hb d_W_law_309 rfl (lv_at hl 1 rfl) ?_
  refine lv_iload hx hb d_W_law_310 (lv_at hl 0 rfl) ?_
  refine lv_iconst (v := 3) hx hb d_W_law_312 (by decide) ?_
  refine lv_iadd hx hb d_W_law_313 ?_
  refine lv_topi (fun y_3 ey_3 => ?_)
  obtain rfl : y_3 = nI (3 + 7 * q + 3) := ey_3.trans (nI_add (3 + 7 * q) 3)
  refine va_sld hx hb hSc hbl hbA hS (i := nI (3 + 7 * q + 3)) (by rintro (y | y); exact nI_pos (by omega) y; rw [nI_clamp (by omega)] at y; omega) d_W_law_314 ?_
  rw [nI_clamp (by omega)]
  refine lv_aload_n hx hb d_W_law_315 rfl (lv_at hl 1 rfl) ?_
  refine lv_iload hx hb d_W_law_316 (lv_at hl 0 rfl) ?_
  refine lv_iconst (v := 4) hx hb d_W_law_318 (by decide) ?_
  refine lv_iadd hx hb d_W_law_319 ?_
  refine lv_topi (fun y_4 ey_4 => ?_)
  obtain rfl : y_4 = nI (3 + 7 * q + 4) := ey_4.trans (nI_add (3 + 7 * q) 4)
  refine va_sld hx hb hSc hbl hbA hS (i := nI (3 + 7 * q + 4)) (by rintro (y | y); exact nI_pos (by omega) y; rw [nI_clamp (by omega)] at y; omega) d_W_law_320 ?_
  rw [nI_clamp (by omega)]
  refine lv_aload_n hx hb d_W_law_321 rfl (lv_at hl 1 rfl) ?_
  refine lv_iload hx hb d_W_law_322 (lv_at hl 0 rfl) ?_
  refine lv_iconst (v := 5) hx hb d_W_law_324 (by decide) ?_
  refine lv_iadd hx hb d_W_law_325 ?_
  refine lv_topi (fun y_5 ey_5 => ?_)
  obtain rfl : y_5 = nI (3 + 7 * q + 5) := ey_5.trans (nI_add (3 + 7 * q) 5)
  refine va_sld hx hb hSc hbl hbA hS (i := nI (3 + 7 * q + 5)) (by rintro (y | y); exact nI_pos (by omega) y; rw [nI_clamp (by omega)] at y; omega) d_W_law_326 ?_
  rw [nI_clamp (by omega)]
  refine lv_aload_n hx hb d_W_law_327 rfl (lv_at hl 1 rfl) ?_
  refine lv_iload hx hb d_W_law_328 (lv_at hl 0 rfl) ?_
  refine lv_bipush (v := 6) hx hb d_W_law_330 (by decide) ?_
  refine lv_iadd hx hb d_W_law_332 ?_
  refine lv_topi (fun y_6 ey_6 => ?_)
  obtain rfl : y_6 = nI (3 + 7 * q + 6) := ey_6.trans (nI_add (3 + 7 * q) 6)
  refine va_sld hx hb hSc hbl hbA hS (i := nI (3 + 7 * q + 6)) (by rintro (y | y); exact nI_pos (by omega) y; rw [nI_clamp (by omega)] at y; omega) d_W_law_333 ?_
  rw [nI_clamp (by omega)]
  refine fr_calli (va_runV (As := [.int (xs (3 + 7 * q + 1)), .int (xs (3 + 7 * q + 2)), .int (xs (3 + 7 * q + 3)), .int (xs (3 + 7 * q + 4)), .int (xs (3 + 7 * q + 5)), .int (xs (3 + 7 * q + 6))]) (rest := []) ⟨hx, hb, hml, hown, hts⟩ (c_X_list l hE h0 h1 h2 h3 h4 h5 h6 h8 h9 h7 hls (by omega) g1.2 g4 g2 g5 g10 (xs (3 + 7 * q + 1)) (xs (3 + 7 * q + 2)) (xs (3 + 7 * q + 3)) (xs (3 + 7 * q + 4)) (xs (3 + 7 * q + 5)) (xs (3 + 7 * q + 6))) (cwV 6 hts (hw_goodV kw_170 kw_171 kw_172 kw_21 kw_173) rfl rfl rfl (by decide +kernel) ⟨Nat.le_of_ble_eq_true rfl, Nat.le_of_ble_eq_true rfl⟩) ⟨fr_blindX, fr_recv hK hE (0, 0) rfl h0 (ci := 0) rfl, fr_preX hE hK hX hS⟩ rfl rfl hl.1 rfl (lv_room (Nat.le_of_ble_eq_true rfl)) d_W_law_334 ⟨by show _ ≤ 601024; omega, by show _ ≤ 7293000; omega⟩) hS (fun r_7 u_7 H locs w_7 hE hS => ?_)
  obtain ⟨hm9, hbb⟩ := l_list hC w_7
  replace hl : lv_has ls 7 [(4, .int (nI (3 + 7 * q))), (0, .ref sb), (1, .ref (u_7.1 0)), (2, .ref (u_7.1 40)), (3, .ref (u_7.1 30))] := by rw [hbb 0 (by decide), hbb 40 (by decide), hbb 30 (by decide)]; exact hl
  have m0x : u_7.2 (0, 40) = some (.inr (5, fM u_7.1 th pg gr lf an n lc ps rw tk po)) := by rw [fM_b hbb]; exact (hm9 40 (by decide)).trans m0
  have m6x : u_7.2 (0, 46) = some (.inl (cI, 150, .inl st)) := (hm9 46 (by decide)).trans m6
  have m7x : u_7.2 (0, 47) = some (.inl (cI, 150, .inl dy)) := (hm9 47 (by decide)).trans m7
  have m8x : u_7.2 (0, 48) = some (.inl (cZ, 150, .inl dl)) := (hm9 48 (by decide)).trans m8
  have m9x : u_7.2 (0, 49) = some (.inl (cI, 150, .inl ac)) := (hm9 49 (by decide)).trans m9
  have m10x : u_7.2 (0, 50) = some (.inl (cZ, 6, .inl hd)) := (hm9 50 (by decide)).trans m10
  have m12x : u_7.2 (0, 52) = some (.inl (cI, 30, .inl mn)) := (hm9 52 (by decide)).trans m12
  have m13x : u_7.2 (0, 53) = some (.inl (cI, 30, .inl si)) := (hm9 53 (by decide)).trans m13
  have m14x : u_7.2 (0, 54) = some (.inl (cI, 30, .inl fo)) := (hm9 54 (by decide)).trans m14
  have m15x : u_7.2 (0, 55) = some (.inl (cI, 30, .inl ol)) := (hm9 55 (by decide)).trans m15
  have m16x : u_7.2 (0, 56) = some (.inl (cI, 4500, .inl li)) := (hm9 56 (by decide)).trans m16
  have m18x : u_7.2 (0, 58) = some (.inl (cI, 4600, .inl pl)) := (hm9 58 (by decide)).trans m18
  have m19x : u_7.2 (0, 59) = some (.inl (cI, 4600, .inl pf)) := (hm9 59 (by decide)).trans m19
  have m20x : u_7.2 (0, 60) = some (.inl (cI, 4600, .inl pr)) := (hm9 60 (by decide)).trans m20
  have m21x : u_7.2 (0, 61) = some (.inl (cI, 4600, .inl pa)) := (hm9 61 (by decide)).trans m21
  have m22x : u_7.2 (0, 62) = some (.inl (cI, 4600, .inl pt)) := (hm9 62 (by decide)).trans m22
  have m24x : u_7.2 (0, 64) = some (.inl (cI, 4500, .inl rr)) := (hm9 64 (by decide)).trans m24
  have m25x : u_7.2 (0, 65) = some (.inl (cI, 4500, .inl rd)) := (hm9 65 (by decide)).trans m25
  have m26x : u_7.2 (0, 66) = some (.inl (cZ, 4500, .inl rg)) := (hm9 66 (by decide)).trans m26
  have m28x : u_7.2 (0, 68) = some (.inl (cI, 4600, .inl tp)) := (hm9 68 (by decide)).trans m28
  have m29x : u_7.2 (0, 69) = some (.inl (cI, 4600, .inl md)) := (hm9 69 (by decide)).trans m29
  have m30x : u_7.2 (0, 70) = some (.inl (cI, 4600, .inl le)) := (hm9 70 (by decide)).trans m30
  have m31x : u_7.2 (0, 71) = some (.inl (cI, 10, .inl aw)) := (hm9 71 (by decide)).trans m31
  have m32x : u_7.2 (0, 72) = some (.inl (cI, 10, .inl cs)) := (hm9 72 (by decide)).trans m32
  refine lv_aload_n hx hb d_W_law_337 rfl (lv_at hl 3 rfl) ?_
  refine lv_aload_n hx hb d_W_law_338 rfl (lv_at hl 1 rfl) ?_
  refine lv_iload hx hb d_W_law_339 (lv_at hl 0 rfl) ?_
  refine lv_iconst (v := 1) hx hb d_W_law_341 (by decide) ?_
  refine lv_iadd hx hb d_W_law_342 ?_
  refine lv_topi (fun y_8 ey_8 => ?_)
  obtain rfl : y_8 = nI (3 + 7 * q + 1) := ey_8.trans (nI_add (3 + 7 * q) 1)
  refine va_sld hx hb hSc hbl hbA hS (i := nI (3 + 7 * q + 1)) (by rintro (y | y); exact nI_pos (by omega) y; rw [nI_clamp (by omega)] at y; omega) d_W_law_343 ?_
  rw [nI_clamp (by omega)]
  refine lv_aload_n hx hb d_W_law_344 rfl (lv_at hl 1 rfl) ?_
  refine lv_iload hx hb d_W_law_345 (lv_at hl 0 rfl) ?_
  refine lv_iconst (v := 2) hx hb d_W_law_347 (by decide) ?_
  refine lv_iadd hx hb d_W_law_348 ?_
  refine lv_topi (fun y_9 ey_9 => ?_)
  obtain rfl : y_9 = nI (3 + 7 * q + 2) := ey_9.trans (nI_add (3 + 7 * q) 2)
  refine va_sld hx hb hSc hbl hbA hS (i := nI (3 + 7 * q + 2)) (by rintro (y | y); exact nI_pos (by omega) y; rw [nI_clamp (by omega)] at y; omega) d_W_law_349 ?_
  rw [nI_clamp (by omega)]
  refine lv_aload_n hx hb d_W_law_350 rfl (lv_at hl 1 rfl) ?_
  refine lv_iload hx hb d_W_law_351 (lv_at hl 0 rfl) ?_
  refine lv_iconst (v := 3) hx hb d_W_law_353 (by decide) ?_
  refine lv_iadd hx hb d_W_law_354 ?_
  refine lv_topi (fun y_10 ey_10 => ?_)
  obtain rfl : y_10 = nI (3 + 7 * q + 3) := ey_10.trans (nI_add (3 + 7 * q) 3)
  refine va_sld hx hb hSc hbl hbA hS (i := nI (3 + 7 * q + 3)) (by rintro (y | y); exact nI_pos (by omega) y; rw [nI_clamp (by omega)] at y; omega) d_W_law_355 ?_
  rw [nI_clamp (by omega)]
  refine lv_aload_n hx hb d_W_law_356 rfl (lv_at hl 1 rfl) ?_
  refine lv_iload hx hb d_W_law_357 (lv_at hl 0 rfl) ?_
  refine lv_iconst (v := 4) hx hb d_W_law_359 (by decide) ?_
  refine lv_iadd hx hb d_W_law_360 ?_
  refine lv_topi (fun y_11 ey_11 => ?_)
  obtain rfl : y_11 = nI (3 + 7 * q + 4) := ey_11.trans (nI_add (3 + 7 * q) 4)
  refine va_sld hx hb hSc hbl hbA hS (i := nI (3 + 7 * q + 4)) (by rintro (y | y); exact nI_pos (by omega) y; rw [nI_clamp (by omega)] at y; omega) d_W_law_361 ?_
  rw [nI_clamp (by omega)]
  refine lv_aload_n hx hb d_W_law_362 rfl (lv_at hl 1 rfl) ?_
  refine lv_iload hx hb d_W_law_363 (lv_at hl 0 rfl) ?_
  refine lv_iconst (v := 5) hx hb d_W_law_365 (by decide) ?_
  refine lv_iadd hx hb d_W_law_366 ?_
  refine lv_topi (fun y_12 ey_12 => ?_)
  obtain rfl : y_12 = nI (3 + 7 * q + 5) := ey_12.trans (nI_add (3 + 7 * q) 5)
  refine va_sld hx hb hSc hbl hbA hS (i := nI (3 + 7 * q + 5)) (by rintro (y | y); exact nI_pos (by omega) y; rw [nI_clamp (by omega)] at y; omega) d_W_law_367 ?_
  rw [nI_clamp (by omega)]
  refine lv_aload_n hx hb d_W_law_368 rfl (lv_at hl 1 rfl) ?_
  refine lv_iload hx hb d_W_law_369 (lv_at hl 0 rfl) ?_
  refine lv_bipush (v := 6) hx hb d_W_law_371 (by decide) ?_
  refine lv_iadd hx hb d_W_law_373 ?_
  refine lv_topi (fun y_13 ey_13 => ?_)
  obtain rfl : y_13 = nI (3 + 7 * q + 6) := ey_13.trans (nI_add (3 + 7 * q) 6)
  refine va_sld hx hb hSc hbl hbA hS (i := nI (3 + 7 * q + 6)) (by rintro (y | y); exact nI_pos (by omega) y; rw [nI_clamp (by omega)] at y; omega) d_W_law_374 ?_
  rw [nI_clamp (by omega)]
  refine fr_calli (va_runV (As := [.int (xs (3 + 7 * q + 1)), .int (xs (3 + 7 * q + 2)), .int (xs (3 + 7 * q + 3)), .int (xs (3 + 7 * q + 4)), .int (xs (3 + 7 * q + 5)), .int (xs (3 + 7 * q + 6))]) (rest := [.int r_7]) ⟨hx, hb, hml, hown, hts⟩ (c_M_list l hE m0x m6x m7x m8x m9x m10x m12x m13x m14x m15x m16x m18x m19x m20x m21x m22x m24x m25x m26x m28x m29x m30x m31x m32x g4 g2 g5 (by omega) (by omega) g1.2 hr1 g10 (xs (3 + 7 * q + 1)) (xs (3 + 7 * q + 2)) (xs (3 + 7 * q + 3)) (xs (3 + 7 * q + 4)) (xs (3 + 7 * q + 5)) (xs (3 + 7 * q + 6))) (cwV 6 hts (hw_goodV kw_612 kw_613 kw_614 kw_26 kw_615) rfl rfl rfl (by decide +kernel) ⟨Nat.le_of_ble_eq_true rfl, Nat.le_of_ble_eq_true rfl⟩) ⟨fr_blind, fr_recv hK hE (0, 40) rfl m0x (ci := 5) rfl, fr_pre hE hK⟩ rfl rfl hl.1 rfl (lv_room (Nat.le_of_ble_eq_true rfl)) d_W_law_375 ⟨by show _ ≤ 601024; omega, by show _ ≤ 7293000; omega⟩) hS (fun r_14 u_14 H locs w_14 hE hS => ?_)
  have hst := s_list hC hN  he0 hE0.above (xs (3 + 7 * q + 1)) (xs (3 + 7 * q + 2)) (xs (3 + 7 * q + 3)) (xs (3 + 7 * q + 4)) (xs (3 + 7 * q + 5)) (xs (3 + 7 * q + 6)) (r1 := r_7) (r2 := r_14) (u1 := u_7) (u2 := u_14) w_7 w_14
  refine lv_icmp_eq (tgt := 649) hx hb d_W_law_378 (by decide) (fun c_15 => ?_) (fun c_15 => ?_)
  · skip
    refine W.widen (k := (35 + 8 * (q + 1))) (n := (56376 + 2600 * (q + 1))) (by omega) (by omega) ?_
    exact kk _ _ _ _ _ hst.2 hE hS (lv_sub hl [0, 1, 2, 3, 4] rfl)
  · skip
    exact absurd c_15 (fun q9 => q9 hst.1)
set_option maxHeartbeats 4000000 in
set_option maxRecDepth 100000 in
theorem lc_5 {p : Program} {l : Launch} {e : Env} {s : State} {m : MethodId} {below : List Frame} {meth : Method} {c : Code} {Q : State → Prop} {D : va_G} {cI cZ cJ cP cO : ClassId} {e0 mi sb L z : Nat} {sa : Nat → Nat} {xs : Nat → Int32} (hx : p.tables.exec = Jvm.exec) (hb : c.code = code) (hml : c.maxLocals = 7) (hown : s.vm.findClass "HarvestStepsLaw" = some m.cls) (hts : ∀ w ∈ Cond.tt :: hw_tbl, w.before #[Value.ref sb] s = true) (hK : va_K D hCl (hTy cI cZ cJ cP cO) s) (hX : fr_X z e0 mi s s.heap) (hTT : fr_T z sa s s.heap) (hl9 : l.stackTraces = false) (hSc : va_X sb L xs s s.heap) (hbl : sb < s.heap.size) (hbA : ¬ fr_A z sb) (he0 : e0 < z) (hL : L ≤ 3587) {q : Nat} (hq : 3 + 7 * q + 7 ≤ L) {b : Nat → Nat} {C : fr_C} {H : Heap} {locs : List Loc} {ls : Array Slot} (hCp : Cpl cI cZ cJ cP cO e0 b C q) (hE : fr_W D hCl z b C H) (hS : va_S (fr_A z) s.heap H locs) (hl : lv_has ls 7 [(4, .int (nI (3 + 7 * q))), (0, .ref sb), (1, .ref (b 0)), (2, .ref (b 40)), (3, .ref (b 30))])
    (kk : ∀ (b' : Nat → Nat) (C' : fr_C) (H' : Heap) (locs' : List Loc) (ls' : Array Slot), Cpl cI cZ cJ cP cO e0 b' C' (q + 1) → fr_W D hCl z b' C' H' → va_S (fr_A z) s.heap H' locs' → lv_has ls' 7 [(4, .int (nI (3 + 7 * q))), (0, .ref sb), (1, .ref (b' 0)), (2, .ref (b' 40)), (3, .ref (b' 30))] → W p l e room_1 s m #[Value.ref sb] below meth c H' locs' (35 + 8 * (q + 1)) (56376 + 2600 * (q + 1)) Q (F0 m 649 ls' [])) : W p l e room_1 s m #[Value.ref sb] below meth c H locs (35 + 8 * q) (56376 + 2600 * q) Q (F0 m 383 ls []) := by
  obtain ⟨pg, gr, lf, n, an, lc, po, ps, rw, tk, dt, n0, th, mc, st, dy, dl, ac, hd, mn, si, fo, ol, li, pl, pf, pr, pa, pt, rr, rd, rg, tp, md, le, aw, cs, lp, f, Fr, o30, hC⟩ := hCp
  obtain ⟨⟨h0, h1, h2, h3, h4, h5, ⟨od, h6⟩, h8, h9⟩, ⟨m0, m6, m7, m8, m9, m10, m12, m13, m14, m15, m16, m18, m19, m20, m21, m22, m24, m25, m26, m28, m29, m30, m31, m32⟩, ⟨h7, hls⟩, h30, hnB, hPL⟩ := id hC
  obtain ⟨g1, g2, g3, g4, g5, g6, g7, g8, g9, g10⟩ := id hnB
  obtain ⟨hr1, hr2⟩ := rw_4500 hnB
  have hN : q ≤ 512 := by omega
  have hT : ∀ w ∈ hw_tbl, w.before #[Value.ref sb] s = true := fun w h => hts w (List.mem_cons_of_mem _ h)
  have hE0 := hE
  obtain ⟨TA, LG, NM, FF0, ML, TL, TQ, PQ, FN, GG, hTk⟩ := tok_fun hC hN
  refine lv_aload_n hx hb d_W_law_383 rfl (lv_at hl 2 rfl) ?_
  refine lv_aload_n hx hb d_W_law_384 rfl (lv_at hl 1 rfl) ?_
  refine lv_iload hx hb d_W_law_385 (lv_at hl 0 rfl) ?_
  refine lv_iconst (v := 1) hx hb d_W_law_387 (by decide) ?_
  refine lv_iadd hx hb d_W_law_388 ?_
  refine lv_topi (fun y_1 ey_1 => ?_)
  obtain rfl : y_1 = nI (3 + 7 * q + 1) := ey_1.trans (nI_add (3 + 7 * q) 1)
  refine va_sld hx hb hSc hbl hbA hS (i := nI (3 + 7 * q + 1)) (by rintro (y | y); exact nI_pos (by omega) y; rw [nI_clamp (by omega)] at y; omega) d_W_law_389 ?_
  rw [nI_clamp (by omega)]
  refine lv_aload_n hx hb d_W_law_390 rfl (lv_at hl 1 rfl) ?_
  refine lv_iload hx hb d_W_law_391 (lv_at hl 0 rfl) ?_
  refine lv_iconst (v := 2) hx hb d_W_law_393 (by decide) ?_
  refine lv_iadd hx hb d_W_law_394 ?_
  refine lv_topi (fun y_2 ey_2 => ?_)
  obtain rfl : y_2 = nI (3 + 7 * q + 2) := ey_2.trans (nI_add (3 + 7 * q) 2)
  refine va_sld hx hb hSc hbl hbA hS (i := nI (3 + 7 * q + 2)) (by rintro (y | y); exact nI_pos (by omega) y; rw [nI_clamp (by omega)] at y; omega) d_W_law_395 ?_
  rw [nI_clamp (by omega)]
  refine lv_aload_n hx hb d_W_law_396 rfl (lv_at hl 1 rfl) ?_
  refine lv_iload hx hb d_W_law_397 (lv_at hl 0 rfl) ?_
  refine lv_iconst (v := 3) hx hb d_W_law_399 (by decide) ?_
  refine lv_iadd hx hb d_W_law_400 ?_
  refine lv_topi (fun y_3 ey_3 => ?_)
  obtain rfl : y_3 = nI (3 + 7 * q + 3) := ey_3.trans (nI_add (3 + 7 * q) 3)
  refine va_sld hx hb hSc hbl hbA hS (i := nI (3 + 7 * q + 3)) (by rintro (y | y); exact nI_pos (by omega) y; rw [nI_clamp (by omega)] at y; omega) d_W_law_401 ?_
  rw [nI_clamp (by omega)]
  refine fr_calli (va_runV (As := [.int (xs (3 + 7 * q + 1)), .int (xs (3 + 7 * q + 2)), .int (xs (3 + 7 * q + 3))]) (rest := []) ⟨hx, hb, hml, hown, hts⟩ (c_X_resume l hE h0 h3 h4 h5 h8 h9 h7 hls (by omega) (TA := TA) (LG := LG) (NM := NM) (FF := fun j => FF0 j + pg) (ML := ML) (HV := fun j => ol (TL j)) (FO := fun j => fo (TL j)) (AB := fun j => si (TL j)) (MD := md) (PQ := PQ) (FN := FN) (GG := GG) (fun j hj => (hTk j hj).xTok) g1.2 g10 (xs (3 + 7 * q + 1)) (xs (3 + 7 * q + 2)) (xs (3 + 7 * q + 3))) (cwV 3 hts (hw_goodV kw_345 kw_346 kw_347 kw_21 kw_348) rfl rfl rfl (by decide +kernel) ⟨Nat.le_of_ble_eq_true rfl, Nat.le_of_ble_eq_true rfl⟩) ⟨fr_blindX, fr_recv hK hE (0, 0) rfl h0 (ci := 0) rfl, fr_preX hE hK hX hS⟩ rfl rfl hl.1 rfl (lv_room (Nat.le_of_ble_eq_true rfl)) d_W_law_402 ⟨by show _ ≤ 601024; omega, by show _ ≤ 7293000; omega⟩) hS (fun r_4 u_4 H locs w_4 hE hS => ?_)
  obtain ⟨hm9, hbb⟩ := l_resume hC hTk w_4
  replace hl : lv_has ls 7 [(4, .int (nI (3 + 7 * q))), (0, .ref sb), (1, .ref (u_4.1 0)), (2, .ref (u_4.1 40)), (3, .ref (u_4.1 30))] := by rw [hbb 0 (by decide), hbb 40 (by decide), hbb 30 (by decide)]; exact hl
  have m0x : u_4.2 (0, 40) = some (.inr (5, fM u_4.1 th pg gr lf an n lc ps rw tk po)) := by rw [fM_b hbb]; exact (hm9 40 (by decide)).trans m0
  have m7x : u_4.2 (0, 47) = some (.inl (cI, 150, .inl dy)) := (hm9 47 (by decide)).trans m7
  have m8x : u_4.2 (0, 48) = some (.inl (cZ, 150, .inl dl)) := (hm9 48 (by decide)).trans m8
  have m9x : u_4.2 (0, 49) = some (.inl (cI, 150, .inl ac)) := (hm9 49 (by decide)).trans m9
  have m12x : u_4.2 (0, 52) = some (.inl (cI, 30, .inl mn)) := (hm9 52 (by decide)).trans m12
  have m13x : u_4.2 (0, 53) = some (.inl (cI, 30, .inl si)) := (hm9 53 (by decide)).trans m13
  have m15x : u_4.2 (0, 55) = some (.inl (cI, 30, .inl ol)) := (hm9 55 (by decide)).trans m15
  have m16x : u_4.2 (0, 56) = some (.inl (cI, 4500, .inl li)) := (hm9 56 (by decide)).trans m16
  have m18x : u_4.2 (0, 58) = some (.inl (cI, 4600, .inl pl)) := (hm9 58 (by decide)).trans m18
  have m19x : u_4.2 (0, 59) = some (.inl (cI, 4600, .inl pf)) := (hm9 59 (by decide)).trans m19
  have m20x : u_4.2 (0, 60) = some (.inl (cI, 4600, .inl pr)) := (hm9 60 (by decide)).trans m20
  have m21x : u_4.2 (0, 61) = some (.inl (cI, 4600, .inl pa)) := (hm9 61 (by decide)).trans m21
  have m22x : u_4.2 (0, 62) = some (.inl (cI, 4600, .inl pt)) := (hm9 62 (by decide)).trans m22
  have m24x : u_4.2 (0, 64) = some (.inl (cI, 4500, .inl rr)) := (hm9 64 (by decide)).trans m24
  have m25x : u_4.2 (0, 65) = some (.inl (cI, 4500, .inl rd)) := (hm9 65 (by decide)).trans m25
  have m26x : u_4.2 (0, 66) = some (.inl (cZ, 4500, .inl rg)) := (hm9 66 (by decide)).trans m26
  have m28x : u_4.2 (0, 68) = some (.inl (cI, 4600, .inl tp)) := (hm9 68 (by decide)).trans m28
  have m29x : u_4.2 (0, 69) = some (.inl (cI, 4600, .inl md)) := (hm9 69 (by decide)).trans m29
  have m30x : u_4.2 (0, 70) = some (.inl (cI, 4600, .inl le)) := (hm9 70 (by decide)).trans m30
  have m31x : u_4.2 (0, 71) = some (.inl (cI, 10, .inl aw)) := (hm9 71 (by decide)).trans m31
  have m32x : u_4.2 (0, 72) = some (.inl (cI, 10, .inl cs)) := (hm9 72 (by decide)).trans m32
  refine lv_aload_n hx hb d_W_law_405 rfl (lv_at hl 3 rfl) ?_
  refine lv_aload_n hx hb d_W_law_406 rfl (lv_at hl 1 rfl) ?_
  refine lv_iload hx hb d_W_law_407 (lv_at hl 0 rfl) ?_
  refine lv_iconst (v := 1) hx hb d_W_law_409 (by decide) ?_
  refine lv_iadd hx hb d_W_law_410 ?_
  refine lv_topi (fun y_5 ey_5 => ?_)
  obtain rfl : y_5 = nI (3 + 7 * q + 1) := ey_5.trans (nI_add (3 + 7 * q) 1)
  refine va_sld hx hb hSc hbl hbA hS (i := nI (3 + 7 * q + 1)) (by rintro (y | y); exact nI_pos (by omega) y; rw [nI_clamp (by omega)] at y; omega) d_W_law_411 ?_
  rw [nI_clamp (by omega)]
  refine lv_aload_n hx hb d_W_law_412 rfl (lv_at hl 1 rfl) ?_
  refine lv_iload hx hb d_W_law_413 (lv_at hl 0 rfl) ?_
  refine lv_iconst (v := 2) hx hb d_W_law_415 (by decide) ?_
  refine lv_iadd hx hb d_W_law_416 ?_
  refine lv_topi (fun y_6 ey_6 => ?_)
  obtain rfl : y_6 = nI (3 + 7 * q + 2) := ey_6.trans (nI_add (3 + 7 * q) 2)
  refine va_sld hx hb hSc hbl hbA hS (i := nI (3 + 7 * q + 2)) (by rintro (y | y); exact nI_pos (by omega) y; rw [nI_clamp (by omega)] at y; omega) d_W_law_417 ?_
  rw [nI_clamp (by omega)]
  refine lv_aload_n hx hb d_W_law_418 rfl (lv_at hl 1 rfl) ?_
  refine lv_iload hx hb d_W_law_419 (lv_at hl 0 rfl) ?_
  refine lv_iconst (v := 3) hx hb d_W_law_421 (by decide) ?_
  refine lv_iadd hx hb d_W_law_422 ?_
  refine lv_topi (fun y_7 ey_7 => ?_)
  obtain rfl : y_7 = nI (3 + 7 * q + 3) := ey_7.trans (nI_add (3 + 7 * q) 3)
  refine va_sld hx hb hSc hbl hbA hS (i := nI (3 + 7 * q + 3)) (by rintro (y | y); exact nI_pos (by omega) y; rw [nI_clamp (by omega)] at y; omega) d_W_law_423 ?_
  rw [nI_clamp (by omega)]
  refine fr_calli (va_runV (As := [.int (xs (3 + 7 * q + 1)), .int (xs (3 + 7 * q + 2)), .int (xs (3 + 7 * q + 3))]) (rest := [.int r_4]) ⟨hx, hb, hml, hown, hts⟩ (c_M_resume l hE m0x m7x m8x m9x m12x m13x m15x m16x m18x m19x m20x m21x m22x m24x m25x m26x m28x m29x m30x m31x m32x (by omega) (by omega) g1.2 g10 (q_mTok hC hN) (xs (3 + 7 * q + 1)) (xs (3 + 7 * q + 2)) (xs (3 + 7 * q + 3))) (cwV 3 hts (hw_goodV kw_633 kw_634 kw_635 kw_26 kw_636) rfl rfl rfl (by decide +kernel) ⟨Nat.le_of_ble_eq_true rfl, Nat.le_of_ble_eq_true rfl⟩) ⟨fr_blind, fr_recv hK hE (0, 40) rfl m0x (ci := 5) rfl, fr_pre hE hK⟩ rfl rfl hl.1 rfl (lv_room (Nat.le_of_ble_eq_true rfl)) d_W_law_424 ⟨by show _ ≤ 601024; omega, by show _ ≤ 7293000; omega⟩) hS (fun r_8 u_8 H locs w_8 hE hS => ?_)
  have hst := s_resume hC hN hTk he0 hE0.above (xs (3 + 7 * q + 1)) (xs (3 + 7 * q + 2)) (xs (3 + 7 * q + 3)) (r1 := r_4) (r2 := r_8) (u1 := u_4) (u2 := u_8) w_4 w_8
  refine lv_icmp_eq (tgt := 649) hx hb d_W_law_427 (by decide) (fun c_9 => ?_) (fun c_9 => ?_)
  · skip
    refine W.widen (k := (35 + 8 * (q + 1))) (n := (56376 + 2600 * (q + 1))) (by omega) (by omega) ?_
    exact kk _ _ _ _ _ hst.2 hE hS (lv_sub hl [0, 1, 2, 3, 4] rfl)
  · skip
    exact absurd c_9 (fun q9 => q9 hst.1)
set_option maxHeartbeats 4000000 in
set_option maxRecDepth 100000 in
theorem lc_6 {p : Program} {l : Launch} {e : Env} {s : State} {m : MethodId} {below : List Frame} {meth : Method} {c : Code} {Q : State → Prop} {D : va_G} {cI cZ cJ cP cO : ClassId} {e0 mi sb L z : Nat} {sa : Nat → Nat} {xs : Nat → Int32} (hx : p.tables.exec = Jvm.exec) (hb : c.code = code) (hml : c.maxLocals = 7) (hown : s.vm.findClass "HarvestStepsLaw" = some m.cls) (hts : ∀ w ∈ Cond.tt :: hw_tbl, w.before #[Value.ref sb] s = true) (hK : va_K D hCl (hTy cI cZ cJ cP cO) s) (hX : fr_X z e0 mi s s.heap) (hTT : fr_T z sa s s.heap) (hl9 : l.stackTraces = false) (hSc : va_X sb L xs s s.heap) (hbl : sb < s.heap.size) (hbA : ¬ fr_A z sb) (he0 : e0 < z) (hL : L ≤ 3587) {q : Nat} (hq : 3 + 7 * q + 7 ≤ L) {b : Nat → Nat} {C : fr_C} {H : Heap} {locs : List Loc} {ls : Array Slot} (hCp : Cpl cI cZ cJ cP cO e0 b C q) (hE : fr_W D hCl z b C H) (hS : va_S (fr_A z) s.heap H locs) (hl : lv_has ls 7 [(4, .int (nI (3 + 7 * q))), (0, .ref sb), (1, .ref (b 0)), (2, .ref (b 40)), (3, .ref (b 30))])
    (kk : ∀ (b' : Nat → Nat) (C' : fr_C) (H' : Heap) (locs' : List Loc) (ls' : Array Slot), Cpl cI cZ cJ cP cO e0 b' C' (q + 1) → fr_W D hCl z b' C' H' → va_S (fr_A z) s.heap H' locs' → lv_has ls' 7 [(4, .int (nI (3 + 7 * q))), (0, .ref sb), (1, .ref (b' 0)), (2, .ref (b' 40)), (3, .ref (b' 30))] → W p l e room_1 s m #[Value.ref sb] below meth c H' locs' (35 + 8 * (q + 1)) (56376 + 2600 * (q + 1)) Q (F0 m 649 ls' [])) : W p l e room_1 s m #[Value.ref sb] below meth c H locs (35 + 8 * q) (56376 + 2600 * q) Q (F0 m 432 ls []) := by
  obtain ⟨pg, gr, lf, n, an, lc, po, ps, rw, tk, dt, n0, th, mc, st, dy, dl, ac, hd, mn, si, fo, ol, li, pl, pf, pr, pa, pt, rr, rd, rg, tp, md, le, aw, cs, lp, f, Fr, o30, hC⟩ := hCp
  obtain ⟨⟨h0, h1, h2, h3, h4, h5, ⟨od, h6⟩, h8, h9⟩, ⟨m0, m6, m7, m8, m9, m10, m12, m13, m14, m15, m16, m18, m19, m20, m21, m22, m24, m25, m26, m28, m29, m30, m31, m32⟩, ⟨h7, hls⟩, h30, hnB, hPL⟩ := id hC
  obtain ⟨g1, g2, g3, g4, g5, g6, g7, g8, g9, g10⟩ := id hnB
  obtain ⟨hr1, hr2⟩ := rw_4500 hnB
  have hN : q ≤ 512 := by omega
  have hT : ∀ w ∈ hw_tbl, w.before #[Value.ref sb] s = true := fun w h => hts w (List.mem_cons_of_mem _ h)
  refine lv_aload_n hx hb d_W_law_432 rfl (lv_at hl 2 rfl) ?_
  refine lv_aload_n hx hb d_W_law_433 rfl (lv_at hl 1 rfl) ?_
  refine lv_iload hx hb d_W_law_434 (lv_at hl 0 rfl) ?_
  refine lv_iconst (v := 1) hx hb d_W_law_436 (by decide) ?_
  refine lv_iadd hx hb d_W_law_437 ?_
  refine lv_topi (fun y_1 ey_1 => ?_)
  obtain rfl : y_1 = nI (3 + 7 * q + 1) := ey_1.trans (nI_add (3 + 7 * q) 1)
  refine va_sld hx hb hSc hbl hbA hS (i := nI (3 + 7 * q + 1)) (by rintro (y | y); exact nI_pos (by omega) y; rw [nI_clamp (by omega)] at y; omega) d_W_law_438 ?_
  rw [nI_clamp (by omega)]
  refine fr_calli (va_runV (As := [.int (xs (3 + 7 * q + 1))]) (rest := []) ⟨hx, hb, hml, hown, hts⟩ (c_X_token l hE h0 h8 (q_lp2 hC hN) (xs (3 + 7 * q + 1))) (cwV 1 hts (hw_goodV kw_367 kw_368 kw_369 kw_21 kw_370) rfl rfl rfl (by decide +kernel) ⟨Nat.le_of_ble_eq_true rfl, Nat.le_of_ble_eq_true rfl⟩) ⟨fr_blind, fr_recv hK hE (0, 0) rfl h0 (ci := 0) rfl, fr_pre hE hK⟩ rfl rfl hl.1 rfl (lv_room (Nat.le_of_ble_eq_true rfl)) d_W_law_439 ⟨by show _ ≤ 601024; omega, by show _ ≤ 7293000; omega⟩) hS (fun r_2 u_2 H locs w_2 hE hS => ?_)
  have m0x := m0
  have m22x := m22
  have m31x := m31
  refine lv_aload_n hx hb d_W_law_442 rfl (lv_at hl 3 rfl) ?_
  refine lv_aload_n hx hb d_W_law_443 rfl (lv_at hl 1 rfl) ?_
  refine lv_iload hx hb d_W_law_444 (lv_at hl 0 rfl) ?_
  refine lv_iconst (v := 1) hx hb d_W_law_446 (by decide) ?_
  refine lv_iadd hx hb d_W_law_447 ?_
  refine lv_topi (fun y_3 ey_3 => ?_)
  obtain rfl : y_3 = nI (3 + 7 * q + 1) := ey_3.trans (nI_add (3 + 7 * q) 1)
  refine va_sld hx hb hSc hbl hbA hS (i := nI (3 + 7 * q + 1)) (by rintro (y | y); exact nI_pos (by omega) y; rw [nI_clamp (by omega)] at y; omega) d_W_law_448 ?_
  rw [nI_clamp (by omega)]
  refine fr_calli (va_runV (As := [.int (xs (3 + 7 * q + 1))]) (rest := [.int r_2]) ⟨hx, hb, hml, hown, hts⟩ (c_M_token l hE m0x m22x m31x (q_aw2 hC hN) (xs (3 + 7 * q + 1))) (cwV 1 hts (hw_goodV kw_637 kw_638 kw_639 kw_26 kw_640) rfl rfl rfl (by decide +kernel) ⟨Nat.le_of_ble_eq_true rfl, Nat.le_of_ble_eq_true rfl⟩) ⟨fr_blind, fr_recv hK hE (0, 40) rfl m0x (ci := 5) rfl, fr_pre hE hK⟩ rfl rfl hl.1 rfl (lv_room (Nat.le_of_ble_eq_true rfl)) d_W_law_449 ⟨by show _ ≤ 601024; omega, by show _ ≤ 7293000; omega⟩) hS (fun r_4 u_4 H locs w_4 hE hS => ?_)
  have hst := s_token hC hN (xs (3 + 7 * q + 1)) (r1 := r_2) (r2 := r_4) (u1 := u_2) (u2 := u_4) w_2 w_4
  refine lv_icmp_eq (tgt := 649) hx hb d_W_law_452 (by decide) (fun c_5 => ?_) (fun c_5 => ?_)
  · skip
    refine W.widen (k := (35 + 8 * (q + 1))) (n := (56376 + 2600 * (q + 1))) (by omega) (by omega) ?_
    exact kk _ _ _ _ _ hst.2 hE hS (lv_sub hl [0, 1, 2, 3, 4] rfl)
  · skip
    exact absurd c_5 (fun q9 => q9 hst.1)
set_option maxHeartbeats 4000000 in
set_option maxRecDepth 100000 in
theorem lc_7 {p : Program} {l : Launch} {e : Env} {s : State} {m : MethodId} {below : List Frame} {meth : Method} {c : Code} {Q : State → Prop} {D : va_G} {cI cZ cJ cP cO : ClassId} {e0 mi sb L z : Nat} {sa : Nat → Nat} {xs : Nat → Int32} (hx : p.tables.exec = Jvm.exec) (hb : c.code = code) (hml : c.maxLocals = 7) (hown : s.vm.findClass "HarvestStepsLaw" = some m.cls) (hts : ∀ w ∈ Cond.tt :: hw_tbl, w.before #[Value.ref sb] s = true) (hK : va_K D hCl (hTy cI cZ cJ cP cO) s) (hX : fr_X z e0 mi s s.heap) (hTT : fr_T z sa s s.heap) (hl9 : l.stackTraces = false) (hSc : va_X sb L xs s s.heap) (hbl : sb < s.heap.size) (hbA : ¬ fr_A z sb) (he0 : e0 < z) (hL : L ≤ 3587) {q : Nat} (hq : 3 + 7 * q + 7 ≤ L) {b : Nat → Nat} {C : fr_C} {H : Heap} {locs : List Loc} {ls : Array Slot} (hCp : Cpl cI cZ cJ cP cO e0 b C q) (hE : fr_W D hCl z b C H) (hS : va_S (fr_A z) s.heap H locs) (hl : lv_has ls 7 [(4, .int (nI (3 + 7 * q))), (0, .ref sb), (1, .ref (b 0)), (2, .ref (b 40)), (3, .ref (b 30))])
    (kk : ∀ (b' : Nat → Nat) (C' : fr_C) (H' : Heap) (locs' : List Loc) (ls' : Array Slot), Cpl cI cZ cJ cP cO e0 b' C' (q + 1) → fr_W D hCl z b' C' H' → va_S (fr_A z) s.heap H' locs' → lv_has ls' 7 [(4, .int (nI (3 + 7 * q))), (0, .ref sb), (1, .ref (b' 0)), (2, .ref (b' 40)), (3, .ref (b' 30))] → W p l e room_1 s m #[Value.ref sb] below meth c H' locs' (35 + 8 * (q + 1)) (56376 + 2600 * (q + 1)) Q (F0 m 649 ls' [])) : W p l e room_1 s m #[Value.ref sb] below meth c H locs (35 + 8 * q) (56376 + 2600 * q) Q (F0 m 457 ls []) := by
  obtain ⟨pg, gr, lf, n, an, lc, po, ps, rw, tk, dt, n0, th, mc, st, dy, dl, ac, hd, mn, si, fo, ol, li, pl, pf, pr, pa, pt, rr, rd, rg, tp, md, le, aw, cs, lp, f, Fr, o30, hC⟩ := hCp
  obtain ⟨⟨h0, h1, h2, h3, h4, h5, ⟨od, h6⟩, h8, h9⟩, ⟨m0, m6, m7, m8, m9, m10, m12, m13, m14, m15, m16, m18, m19, m20, m21, m22, m24, m25, m26, m28, m29, m30, m31, m32⟩, ⟨h7, hls⟩, h30, hnB, hPL⟩ := id hC
  obtain ⟨g1, g2, g3, g4, g5, g6, g7, g8, g9, g10⟩ := id hnB
  obtain ⟨hr1, hr2⟩ := rw_4500 hnB
  have hN : q ≤ 512 := by omega
  have hT : ∀ w ∈ hw_tbl, w.before #[Value.ref sb] s = true := fun w h => hts w (List.mem_cons_of_mem _ h)
  refine lv_aload_n hx hb d_W_law_457 rfl (lv_at hl 2 rfl) ?_
  refine lv_aload_n hx hb d_W_law_458 rfl (lv_at hl 1 rfl) ?_
  refine lv_iload hx hb d_W_law_459 (lv_at hl 0 rfl) ?_
  refine lv_iconst (v := 1) hx hb d_W_law_461 (by decide) ?_
  refine lv_iadd hx hb d_W_law_462 ?_
  refine lv_topi (fun y_1 ey_1 => ?_)
  obtain rfl : y_1 = nI (3 + 7 * q + 1) := ey_1.trans (nI_add (3 + 7 * q) 1)
  refine va_sld hx hb hSc hbl hbA hS (i := nI (3 + 7 * q + 1)) (by rintro (y | y); exact nI_pos (by omega) y; rw [nI_clamp (by omega)] at y; omega) d_W_law_463 ?_
  rw [nI_clamp (by omega)]
  refine lv_aload_n hx hb d_W_law_464 rfl (lv_at hl 1 rfl) ?_
  refine lv_iload hx hb d_W_law_465 (lv_at hl 0 rfl) ?_
  refine lv_iconst (v := 2) hx hb d_W_law_467 (by decide) ?_
  refine lv_iadd hx hb d_W_law_468 ?_
  refine lv_topi (fun y_2 ey_2 => ?_)
  obtain rfl : y_2 = nI (3 + 7 * q + 2) := ey_2.trans (nI_add (3 + 7 * q) 2)
  refine va_sld hx hb hSc hbl hbA hS (i := nI (3 + 7 * q + 2)) (by rintro (y | y); exact nI_pos (by omega) y; rw [nI_clamp (by omega)] at y; omega) d_W_law_469 ?_
  rw [nI_clamp (by omega)]
  refine lv_aload_n hx hb d_W_law_470 rfl (lv_at hl 1 rfl) ?_
  refine lv_iload hx hb d_W_law_471 (lv_at hl 0 rfl) ?_
  refine lv_iconst (v := 3) hx hb d_W_law_473 (by decide) ?_
  refine lv_iadd hx hb d_W_law_474 ?_
  refine lv_topi (fun y_3 ey_3 => ?_)
  obtain rfl : y_3 = nI (3 + 7 * q + 3) := ey_3.trans (nI_add (3 + 7 * q) 3)
  refine va_sld hx hb hSc hbl hbA hS (i := nI (3 + 7 * q + 3)) (by rintro (y | y); exact nI_pos (by omega) y; rw [nI_clamp (by omega)] at y; omega) d_W_law_475 ?_
  rw [nI_clamp (by omega)]
  refine lv_aload_n hx hb d_W_law_476 rfl (lv_at hl 4 rfl) ?_
  have hgW : GoodIn (Cond.tt :: hw_tbl) w_W_row := fun w hw => by
    have h1 : w ∈ hw_tbl := by
      rcases List.mem_cons.mp hw with e | e
      · rw [e]; exact kw_392
      · exact e
    exact ⟨List.mem_cons_of_mem _ h1, hw_ok h1⟩
  refine fr_calli (fr_runSW (As := [.ref (b 0), .int (xs (3 + 7 * q + 1)), .int (xs (3 + 7 * q + 2)), .int (xs (3 + 7 * q + 3)), .ref (b 30)]) (rest := []) (hh := [(0, 12, 15, 13)]) ⟨hx, hb, hml, hown, hts⟩ (c_W_row l hl9 hE (sa := sa) h0 h8 h30 (q_lp hC hN) (xs (3 + 7 * q + 1)) (xs (3 + 7 * q + 2)) (xs (3 + 7 * q + 3))) List.mem_cons_self hgW rfl rfl ⟨Nat.le_of_ble_eq_true rfl, Nat.le_of_ble_eq_true rfl⟩ (hT _ kw_391) (hT _ kw_20) (hT _ kw_390) (by decide +kernel) (show _ = some 5 by decide +kernel) ⟨fr_blindT, fr_preT hE hK hTT hS⟩ rfl hl.1 rfl (lv_room (Nat.le_of_ble_eq_true rfl)) d_W_law_477 ⟨by show _ ≤ 601024; omega, by show _ ≤ 7293000; omega⟩) hS (fun r_1 u_1 H locs w_1 hE hS => ?_)
  have m0x : u_1 (0, 40) = some (.inr (5, fM b th pg gr lf an n lc ps rw tk po)) := by rcases w_1 with ⟨_, _, rfl⟩ | ⟨_, _, _, _, _, _, _, _, _, _, _, _, _, _, rfl⟩ <;> exact m0
  have m14x : u_1 (0, 54) = some (.inl (cI, 30, .inl fo)) := by rcases w_1 with ⟨_, _, rfl⟩ | ⟨_, _, _, _, _, _, _, _, _, _, _, _, _, _, rfl⟩ <;> exact m14
  have m18x : u_1 (0, 58) = some (.inl (cI, 4600, .inl pl)) := by rcases w_1 with ⟨_, _, rfl⟩ | ⟨_, _, _, _, _, _, _, _, _, _, _, _, _, _, rfl⟩ <;> exact m18
  have m20x : u_1 (0, 60) = some (.inl (cI, 4600, .inl pr)) := by rcases w_1 with ⟨_, _, rfl⟩ | ⟨_, _, _, _, _, _, _, _, _, _, _, _, _, _, rfl⟩ <;> exact m20
  have m21x : u_1 (0, 61) = some (.inl (cI, 4600, .inl pa)) := by rcases w_1 with ⟨_, _, rfl⟩ | ⟨_, _, _, _, _, _, _, _, _, _, _, _, _, _, rfl⟩ <;> exact m21
  have m24x : u_1 (0, 64) = some (.inl (cI, 4500, .inl rr)) := by rcases w_1 with ⟨_, _, rfl⟩ | ⟨_, _, _, _, _, _, _, _, _, _, _, _, _, _, rfl⟩ <;> exact m24
  have m25x : u_1 (0, 65) = some (.inl (cI, 4500, .inl rd)) := by rcases w_1 with ⟨_, _, rfl⟩ | ⟨_, _, _, _, _, _, _, _, _, _, _, _, _, _, rfl⟩ <;> exact m25
  have m26x : u_1 (0, 66) = some (.inl (cZ, 4500, .inl rg)) := by rcases w_1 with ⟨_, _, rfl⟩ | ⟨_, _, _, _, _, _, _, _, _, _, _, _, _, _, rfl⟩ <;> exact m26
  have m31x : u_1 (0, 71) = some (.inl (cI, 10, .inl aw)) := by rcases w_1 with ⟨_, _, rfl⟩ | ⟨_, _, _, _, _, _, _, _, _, _, _, _, _, _, rfl⟩ <;> exact m31
  refine lv_istore (lv' := [(5, .int r_1), (4, .int (nI (3 + 7 * q))), (0, .ref sb), (1, .ref (b 0)), (2, .ref (b 40)), (3, .ref (b 30))]) hx hb d_W_law_480 hl (by decide) rfl (fun ls hl => ?_)
  refine lv_aload_n hx hb d_W_law_482 rfl (lv_at hl 4 rfl) ?_
  refine lv_aload_n hx hb d_W_law_483 rfl (lv_at hl 2 rfl) ?_
  refine lv_iload hx hb d_W_law_484 (lv_at hl 1 rfl) ?_
  refine lv_iconst (v := 1) hx hb d_W_law_486 (by decide) ?_
  refine lv_iadd hx hb d_W_law_487 ?_
  refine lv_topi (fun y_4 ey_4 => ?_)
  obtain rfl : y_4 = nI (3 + 7 * q + 1) := ey_4.trans (nI_add (3 + 7 * q) 1)
  refine va_sld hx hb hSc hbl hbA hS (i := nI (3 + 7 * q + 1)) (by rintro (y | y); exact nI_pos (by omega) y; rw [nI_clamp (by omega)] at y; omega) d_W_law_488 ?_
  rw [nI_clamp (by omega)]
  refine lv_aload_n hx hb d_W_law_489 rfl (lv_at hl 2 rfl) ?_
  refine lv_iload hx hb d_W_law_490 (lv_at hl 1 rfl) ?_
  refine lv_iconst (v := 2) hx hb d_W_law_492 (by decide) ?_
  refine lv_iadd hx hb d_W_law_493 ?_
  refine lv_topi (fun y_5 ey_5 => ?_)
  obtain rfl : y_5 = nI (3 + 7 * q + 2) := ey_5.trans (nI_add (3 + 7 * q) 2)
  refine va_sld hx hb hSc hbl hbA hS (i := nI (3 + 7 * q + 2)) (by rintro (y | y); exact nI_pos (by omega) y; rw [nI_clamp (by omega)] at y; omega) d_W_law_494 ?_
  rw [nI_clamp (by omega)]
  refine lv_aload_n hx hb d_W_law_495 rfl (lv_at hl 2 rfl) ?_
  refine lv_iload hx hb d_W_law_496 (lv_at hl 1 rfl) ?_
  refine lv_iconst (v := 3) hx hb d_W_law_498 (by decide) ?_
  refine lv_iadd hx hb d_W_law_499 ?_
  refine lv_topi (fun y_6 ey_6 => ?_)
  obtain rfl : y_6 = nI (3 + 7 * q + 3) := ey_6.trans (nI_add (3 + 7 * q) 3)
  refine va_sld hx hb hSc hbl hbA hS (i := nI (3 + 7 * q + 3)) (by rintro (y | y); exact nI_pos (by omega) y; rw [nI_clamp (by omega)] at y; omega) d_W_law_500 ?_
  rw [nI_clamp (by omega)]
  refine fr_calli (va_runV (As := [.int (xs (3 + 7 * q + 1)), .int (xs (3 + 7 * q + 2)), .int (xs (3 + 7 * q + 3))]) (rest := []) ⟨hx, hb, hml, hown, hts⟩ (c_M_row l hE m0x m14x m18x m20x m21x m24x m25x m26x m31x (q_aw hC hN) (xs (3 + 7 * q + 1)) (xs (3 + 7 * q + 2)) (xs (3 + 7 * q + 3))) (cwV 3 hts (hw_goodV kw_641 kw_642 kw_643 kw_26 kw_644) rfl rfl rfl (by decide +kernel) ⟨Nat.le_of_ble_eq_true rfl, Nat.le_of_ble_eq_true rfl⟩) ⟨fr_blind, fr_recv hK hE (0, 40) rfl m0x (ci := 5) rfl, fr_pre hE hK⟩ rfl rfl hl.1 rfl (lv_room (Nat.le_of_ble_eq_true rfl)) d_W_law_501 ⟨by show _ ≤ 601024; omega, by show _ ≤ 7293000; omega⟩) hS (fun r_7 u_7 H locs w_7 hE hS => ?_)
  have hst := s_row hC hN (xs (3 + 7 * q + 1)) (xs (3 + 7 * q + 2)) (xs (3 + 7 * q + 3)) (r1 := r_1) (r2 := r_7) (u1 := u_1) (u2 := u_7) w_1 w_7
  obtain ⟨o9, ho9, ho9v⟩ := hst.2.1
  refine lv_istore (lv' := [(6, .int r_7), (5, .int r_1), (4, .int (nI (3 + 7 * q))), (0, .ref sb), (1, .ref (b 0)), (2, .ref (b 40)), (3, .ref (b 30))]) hx hb d_W_law_504 hl (by decide) rfl (fun ls hl => ?_)
  refine lv_aload_n hx hb d_W_law_506 rfl (lv_at hl 5 rfl) ?_
  refine fr_calli (va_runV (As := []) (rest := []) ⟨hx, hb, hml, hown, hts⟩ (c_M_thrown l hE (th := u_7) (pg := pg) (gr := gr) (lf := lf) (an := an) (n := n) (lc := lc) (ps := ps) (rw := rw) (tk := tk) (po := po) rfl) (cwV 0 hts (hw_goodV kw_577 kw_578 kw_579 kw_26 kw_580) rfl rfl rfl (by decide +kernel) ⟨Nat.le_of_ble_eq_true rfl, Nat.le_of_ble_eq_true rfl⟩) ⟨fr_blind, fr_recv hK hE (0, 40) rfl rfl (ci := 5) rfl, fr_pre hE hK⟩ rfl rfl hl.1 rfl (lv_room (Nat.le_of_ble_eq_true rfl)) d_W_law_507 ⟨by show _ ≤ 601024; omega, by show _ ≤ 7293000; omega⟩) hS (fun r_8 u_8 H locs w_8 hE hS => ?_)
  refine lv_iload hx hb d_W_law_510 (lv_at hl 1 rfl) ?_
  refine lv_icmp_eq (tgt := 517) hx hb d_W_law_512 (by decide) (fun c_9 => ?_) (fun c_9 => ?_)
  · skip
    refine lv_iload hx hb d_W_law_517 (lv_at hl 1 rfl) ?_
    refine lv_if_ne (tgt := 534) hx hb d_W_law_519 (by decide) (fun c_10 => ?_) (fun c_10 => ?_)
    · skip
      refine lv_goto (tgt := 649) hx hb d_W_law_534 (by decide) ?_
      refine W.widen (k := (35 + 8 * (q + 1))) (n := (56376 + 2600 * (q + 1))) (by omega) (by omega) ?_
      exact kk _ _ _ _ _ hst.2.2.2 hE hS (lv_sub hl [2, 3, 4, 5, 6] rfl)
    · skip
      refine lv_aload_n hx hb d_W_law_522 rfl (lv_at hl 6 rfl) ?_
      refine lv_iconst (v := 0) hx hb d_W_law_523 (by decide) ?_
      refine fr_lald hx hb hK hE (0, 30) 2 rfl ho9 rfl 0 (rfl) (by decide) (by decide) d_W_law_524 ?_
      refine lv_iload hx hb d_W_law_525 (lv_at hl 0 rfl) ?_
      refine lv_i2l (v := (r_7).toInt64) hx hb d_W_law_527 rfl ?_
      refine W.lcmp hx hb d_W_law_528 ?_
      refine lv_if_eq (tgt := 534) hx hb d_W_law_529 (by decide) (fun c_11 => ?_) (fun c_11 => ?_)
      · skip
        refine lv_goto (tgt := 649) hx hb d_W_law_534 (by decide) ?_
        refine W.widen (k := (35 + 8 * (q + 1))) (n := (56376 + 2600 * (q + 1))) (by omega) (by omega) ?_
        exact kk _ _ _ _ _ hst.2.2.2 hE hS (lv_sub hl [2, 3, 4, 5, 6] rfl)
      · skip
        exact absurd c_11 (fun q9 => q9 ((lg_cmp_eq _ _).mpr (ho9v c_10)))
  · skip
    exact absurd c_9 (fun q9 => q9 (w_8.trans hst.1.symm))
set_option maxHeartbeats 4000000 in
set_option maxRecDepth 100000 in
theorem lc_8 {p : Program} {l : Launch} {e : Env} {s : State} {m : MethodId} {below : List Frame} {meth : Method} {c : Code} {Q : State → Prop} {D : va_G} {cI cZ cJ cP cO : ClassId} {e0 mi sb L z : Nat} {sa : Nat → Nat} {xs : Nat → Int32} (hx : p.tables.exec = Jvm.exec) (hb : c.code = code) (hml : c.maxLocals = 7) (hown : s.vm.findClass "HarvestStepsLaw" = some m.cls) (hts : ∀ w ∈ Cond.tt :: hw_tbl, w.before #[Value.ref sb] s = true) (hK : va_K D hCl (hTy cI cZ cJ cP cO) s) (hX : fr_X z e0 mi s s.heap) (hTT : fr_T z sa s s.heap) (hl9 : l.stackTraces = false) (hSc : va_X sb L xs s s.heap) (hbl : sb < s.heap.size) (hbA : ¬ fr_A z sb) (he0 : e0 < z) (hL : L ≤ 3587) {q : Nat} (hq : 3 + 7 * q + 7 ≤ L) {b : Nat → Nat} {C : fr_C} {H : Heap} {locs : List Loc} {ls : Array Slot} (hCp : Cpl cI cZ cJ cP cO e0 b C q) (hE : fr_W D hCl z b C H) (hS : va_S (fr_A z) s.heap H locs) (hl : lv_has ls 7 [(4, .int (nI (3 + 7 * q))), (0, .ref sb), (1, .ref (b 0)), (2, .ref (b 40)), (3, .ref (b 30))])
    (kk : ∀ (b' : Nat → Nat) (C' : fr_C) (H' : Heap) (locs' : List Loc) (ls' : Array Slot), Cpl cI cZ cJ cP cO e0 b' C' (q + 1) → fr_W D hCl z b' C' H' → va_S (fr_A z) s.heap H' locs' → lv_has ls' 7 [(4, .int (nI (3 + 7 * q))), (0, .ref sb), (1, .ref (b' 0)), (2, .ref (b' 40)), (3, .ref (b' 30))] → W p l e room_1 s m #[Value.ref sb] below meth c H' locs' (35 + 8 * (q + 1)) (56376 + 2600 * (q + 1)) Q (F0 m 649 ls' [])) : W p l e room_1 s m #[Value.ref sb] below meth c H locs (35 + 8 * q) (56376 + 2600 * q) Q (F0 m 537 ls []) := by
  obtain ⟨pg, gr, lf, n, an, lc, po, ps, rw, tk, dt, n0, th, mc, st, dy, dl, ac, hd, mn, si, fo, ol, li, pl, pf, pr, pa, pt, rr, rd, rg, tp, md, le, aw, cs, lp, f, Fr, o30, hC⟩ := hCp
  obtain ⟨⟨h0, h1, h2, h3, h4, h5, ⟨od, h6⟩, h8, h9⟩, ⟨m0, m6, m7, m8, m9, m10, m12, m13, m14, m15, m16, m18, m19, m20, m21, m22, m24, m25, m26, m28, m29, m30, m31, m32⟩, ⟨h7, hls⟩, h30, hnB, hPL⟩ := id hC
  obtain ⟨g1, g2, g3, g4, g5, g6, g7, g8, g9, g10⟩ := id hnB
  obtain ⟨hr1, hr2⟩ := rw_4500 hnB
  have hN : q ≤ 512 := by omega
  have hT : ∀ w ∈ hw_tbl, w.before #[Value.ref sb] s = true := fun w h => hts w (List.mem_cons_of_mem _ h)
  refine lv_aload_n hx hb d_W_law_537 rfl (lv_at hl 2 rfl) ?_
  refine lv_aload_n hx hb d_W_law_538 rfl (lv_at hl 1 rfl) ?_
  refine lv_iload hx hb d_W_law_539 (lv_at hl 0 rfl) ?_
  refine lv_iconst (v := 1) hx hb d_W_law_541 (by decide) ?_
  refine lv_iadd hx hb d_W_law_542 ?_
  refine lv_topi (fun y_1 ey_1 => ?_)
  obtain rfl : y_1 = nI (3 + 7 * q + 1) := ey_1.trans (nI_add (3 + 7 * q) 1)
  refine va_sld hx hb hSc hbl hbA hS (i := nI (3 + 7 * q + 1)) (by rintro (y | y); exact nI_pos (by omega) y; rw [nI_clamp (by omega)] at y; omega) d_W_law_543 ?_
  rw [nI_clamp (by omega)]
  refine lv_aload_n hx hb d_W_law_544 rfl (lv_at hl 1 rfl) ?_
  refine lv_iload hx hb d_W_law_545 (lv_at hl 0 rfl) ?_
  refine lv_iconst (v := 2) hx hb d_W_law_547 (by decide) ?_
  refine lv_iadd hx hb d_W_law_548 ?_
  refine lv_topi (fun y_2 ey_2 => ?_)
  obtain rfl : y_2 = nI (3 + 7 * q + 2) := ey_2.trans (nI_add (3 + 7 * q) 2)
  refine va_sld hx hb hSc hbl hbA hS (i := nI (3 + 7 * q + 2)) (by rintro (y | y); exact nI_pos (by omega) y; rw [nI_clamp (by omega)] at y; omega) d_W_law_549 ?_
  rw [nI_clamp (by omega)]
  refine fr_calli (va_runV (As := [.int (xs (3 + 7 * q + 1)), .int (xs (3 + 7 * q + 2))]) (rest := []) ⟨hx, hb, hml, hown, hts⟩ (c_X_get l hE h0 h1 h3 h4 g4 (xs (3 + 7 * q + 1)) (xs (3 + 7 * q + 2))) (cwV 2 hts (hw_goodV kw_371 kw_372 kw_373 kw_21 kw_374) rfl rfl rfl (by decide +kernel) ⟨Nat.le_of_ble_eq_true rfl, Nat.le_of_ble_eq_true rfl⟩) ⟨fr_blind, fr_recv hK hE (0, 0) rfl h0 (ci := 0) rfl, fr_pre hE hK⟩ rfl rfl hl.1 rfl (lv_room (Nat.le_of_ble_eq_true rfl)) d_W_law_550 ⟨by show _ ≤ 601024; omega, by show _ ≤ 7293000; omega⟩) hS (fun r_3 u_3 H locs w_3 hE hS => ?_)
  have m0x := m0
  have m7x := m7
  have m8x := m8
  have m10x := m10
  refine lv_aload_n hx hb d_W_law_553 rfl (lv_at hl 3 rfl) ?_
  refine lv_aload_n hx hb d_W_law_554 rfl (lv_at hl 1 rfl) ?_
  refine lv_iload hx hb d_W_law_555 (lv_at hl 0 rfl) ?_
  refine lv_iconst (v := 1) hx hb d_W_law_557 (by decide) ?_
  refine lv_iadd hx hb d_W_law_558 ?_
  refine lv_topi (fun y_4 ey_4 => ?_)
  obtain rfl : y_4 = nI (3 + 7 * q + 1) := ey_4.trans (nI_add (3 + 7 * q) 1)
  refine va_sld hx hb hSc hbl hbA hS (i := nI (3 + 7 * q + 1)) (by rintro (y | y); exact nI_pos (by omega) y; rw [nI_clamp (by omega)] at y; omega) d_W_law_559 ?_
  rw [nI_clamp (by omega)]
  refine lv_aload_n hx hb d_W_law_560 rfl (lv_at hl 1 rfl) ?_
  refine lv_iload hx hb d_W_law_561 (lv_at hl 0 rfl) ?_
  refine lv_iconst (v := 2) hx hb d_W_law_563 (by decide) ?_
  refine lv_iadd hx hb d_W_law_564 ?_
  refine lv_topi (fun y_5 ey_5 => ?_)
  obtain rfl : y_5 = nI (3 + 7 * q + 2) := ey_5.trans (nI_add (3 + 7 * q) 2)
  refine va_sld hx hb hSc hbl hbA hS (i := nI (3 + 7 * q + 2)) (by rintro (y | y); exact nI_pos (by omega) y; rw [nI_clamp (by omega)] at y; omega) d_W_law_565 ?_
  rw [nI_clamp (by omega)]
  refine fr_calli (va_runV (As := [.int (xs (3 + 7 * q + 1)), .int (xs (3 + 7 * q + 2))]) (rest := [.int r_3]) ⟨hx, hb, hml, hown, hts⟩ (c_M_get l hE m0x m7x m8x m10x g4 (xs (3 + 7 * q + 1)) (xs (3 + 7 * q + 2))) (cwV 2 hts (hw_goodV kw_645 kw_646 kw_647 kw_26 kw_648) rfl rfl rfl (by decide +kernel) ⟨Nat.le_of_ble_eq_true rfl, Nat.le_of_ble_eq_true rfl⟩) ⟨fr_blind, fr_recv hK hE (0, 40) rfl m0x (ci := 5) rfl, fr_pre hE hK⟩ rfl rfl hl.1 rfl (lv_room (Nat.le_of_ble_eq_true rfl)) d_W_law_566 ⟨by show _ ≤ 601024; omega, by show _ ≤ 7293000; omega⟩) hS (fun r_6 u_6 H locs w_6 hE hS => ?_)
  have hst := s_get hC  (xs (3 + 7 * q + 1)) (xs (3 + 7 * q + 2)) (r1 := r_3) (r2 := r_6) (u1 := u_3) (u2 := u_6) w_3 w_6
  refine lv_icmp_eq (tgt := 649) hx hb d_W_law_569 (by decide) (fun c_7 => ?_) (fun c_7 => ?_)
  · skip
    refine W.widen (k := (35 + 8 * (q + 1))) (n := (56376 + 2600 * (q + 1))) (by omega) (by omega) ?_
    exact kk _ _ _ _ _ hst.2 hE hS (lv_sub hl [0, 1, 2, 3, 4] rfl)
  · skip
    exact absurd c_7 (fun q9 => q9 hst.1)
set_option maxHeartbeats 4000000 in
set_option maxRecDepth 100000 in
theorem lc_9 {p : Program} {l : Launch} {e : Env} {s : State} {m : MethodId} {below : List Frame} {meth : Method} {c : Code} {Q : State → Prop} {D : va_G} {cI cZ cJ cP cO : ClassId} {e0 mi sb L z : Nat} {sa : Nat → Nat} {xs : Nat → Int32} (hx : p.tables.exec = Jvm.exec) (hb : c.code = code) (hml : c.maxLocals = 7) (hown : s.vm.findClass "HarvestStepsLaw" = some m.cls) (hts : ∀ w ∈ Cond.tt :: hw_tbl, w.before #[Value.ref sb] s = true) (hK : va_K D hCl (hTy cI cZ cJ cP cO) s) (hX : fr_X z e0 mi s s.heap) (hTT : fr_T z sa s s.heap) (hl9 : l.stackTraces = false) (hSc : va_X sb L xs s s.heap) (hbl : sb < s.heap.size) (hbA : ¬ fr_A z sb) (he0 : e0 < z) (hL : L ≤ 3587) {q : Nat} (hq : 3 + 7 * q + 7 ≤ L) {b : Nat → Nat} {C : fr_C} {H : Heap} {locs : List Loc} {ls : Array Slot} (hCp : Cpl cI cZ cJ cP cO e0 b C q) (hE : fr_W D hCl z b C H) (hS : va_S (fr_A z) s.heap H locs) (hl : lv_has ls 7 [(4, .int (nI (3 + 7 * q))), (0, .ref sb), (1, .ref (b 0)), (2, .ref (b 40)), (3, .ref (b 30))])
    (kk : ∀ (b' : Nat → Nat) (C' : fr_C) (H' : Heap) (locs' : List Loc) (ls' : Array Slot), Cpl cI cZ cJ cP cO e0 b' C' (q + 1) → fr_W D hCl z b' C' H' → va_S (fr_A z) s.heap H' locs' → lv_has ls' 7 [(4, .int (nI (3 + 7 * q))), (0, .ref sb), (1, .ref (b' 0)), (2, .ref (b' 40)), (3, .ref (b' 30))] → W p l e room_1 s m #[Value.ref sb] below meth c H' locs' (35 + 8 * (q + 1)) (56376 + 2600 * (q + 1)) Q (F0 m 649 ls' [])) : W p l e room_1 s m #[Value.ref sb] below meth c H locs (35 + 8 * q) (56376 + 2600 * q) Q (F0 m 574 ls []) := by
  obtain ⟨pg, gr, lf, n, an, lc, po, ps, rw, tk, dt, n0, th, mc, st, dy, dl, ac, hd, mn, si, fo, ol, li, pl, pf, pr, pa, pt, rr, rd, rg, tp, md, le, aw, cs, lp, f, Fr, o30, hC⟩ := hCp
  obtain ⟨⟨h0, h1, h2, h3, h4, h5, ⟨od, h6⟩, h8, h9⟩, ⟨m0, m6, m7, m8, m9, m10, m12, m13, m14, m15, m16, m18, m19, m20, m21, m22, m24, m25, m26, m28, m29, m30, m31, m32⟩, ⟨h7, hls⟩, h30, hnB, hPL⟩ := id hC
  obtain ⟨g1, g2, g3, g4, g5, g6, g7, g8, g9, g10⟩ := id hnB
  obtain ⟨hr1, hr2⟩ := rw_4500 hnB
  have hN : q ≤ 512 := by omega
  have hT : ∀ w ∈ hw_tbl, w.before #[Value.ref sb] s = true := fun w h => hts w (List.mem_cons_of_mem _ h)
  refine lv_aload_n hx hb d_W_law_574 rfl (lv_at hl 2 rfl) ?_
  refine lv_aload_n hx hb d_W_law_575 rfl (lv_at hl 1 rfl) ?_
  refine lv_iload hx hb d_W_law_576 (lv_at hl 0 rfl) ?_
  refine lv_iconst (v := 1) hx hb d_W_law_578 (by decide) ?_
  refine lv_iadd hx hb d_W_law_579 ?_
  refine lv_topi (fun y_1 ey_1 => ?_)
  obtain rfl : y_1 = nI (3 + 7 * q + 1) := ey_1.trans (nI_add (3 + 7 * q) 1)
  refine va_sld hx hb hSc hbl hbA hS (i := nI (3 + 7 * q + 1)) (by rintro (y | y); exact nI_pos (by omega) y; rw [nI_clamp (by omega)] at y; omega) d_W_law_580 ?_
  rw [nI_clamp (by omega)]
  refine fr_calli (va_runV (As := [.int (xs (3 + 7 * q + 1))]) (rest := []) ⟨hx, hb, hml, hown, hts⟩ (c_X_counted l hE h0 h9 (xs (3 + 7 * q + 1))) (cwV 1 hts (hw_goodV kw_375 kw_376 kw_377 kw_21 kw_378) rfl rfl rfl (by decide +kernel) ⟨Nat.le_of_ble_eq_true rfl, Nat.le_of_ble_eq_true rfl⟩) ⟨fr_blind, fr_recv hK hE (0, 0) rfl h0 (ci := 0) rfl, fr_pre hE hK⟩ rfl rfl hl.1 rfl (lv_room (Nat.le_of_ble_eq_true rfl)) d_W_law_581 ⟨by show _ ≤ 601024; omega, by show _ ≤ 7293000; omega⟩) hS (fun r_2 u_2 H locs w_2 hE hS => ?_)
  have m0x := m0
  have m32x := m32
  refine lv_aload_n hx hb d_W_law_584 rfl (lv_at hl 3 rfl) ?_
  refine lv_aload_n hx hb d_W_law_585 rfl (lv_at hl 1 rfl) ?_
  refine lv_iload hx hb d_W_law_586 (lv_at hl 0 rfl) ?_
  refine lv_iconst (v := 1) hx hb d_W_law_588 (by decide) ?_
  refine lv_iadd hx hb d_W_law_589 ?_
  refine lv_topi (fun y_3 ey_3 => ?_)
  obtain rfl : y_3 = nI (3 + 7 * q + 1) := ey_3.trans (nI_add (3 + 7 * q) 1)
  refine va_sld hx hb hSc hbl hbA hS (i := nI (3 + 7 * q + 1)) (by rintro (y | y); exact nI_pos (by omega) y; rw [nI_clamp (by omega)] at y; omega) d_W_law_590 ?_
  rw [nI_clamp (by omega)]
  refine fr_calli (va_runV (As := [.int (xs (3 + 7 * q + 1))]) (rest := [.int r_2]) ⟨hx, hb, hml, hown, hts⟩ (c_M_counted l hE m0x m32x (xs (3 + 7 * q + 1))) (cwV 1 hts (hw_goodV kw_649 kw_650 kw_651 kw_26 kw_652) rfl rfl rfl (by decide +kernel) ⟨Nat.le_of_ble_eq_true rfl, Nat.le_of_ble_eq_true rfl⟩) ⟨fr_blind, fr_recv hK hE (0, 40) rfl m0x (ci := 5) rfl, fr_pre hE hK⟩ rfl rfl hl.1 rfl (lv_room (Nat.le_of_ble_eq_true rfl)) d_W_law_591 ⟨by show _ ≤ 601024; omega, by show _ ≤ 7293000; omega⟩) hS (fun r_4 u_4 H locs w_4 hE hS => ?_)
  have hst := s_counted hC  (xs (3 + 7 * q + 1)) (r1 := r_2) (r2 := r_4) (u1 := u_2) (u2 := u_4) w_2 w_4
  refine lv_icmp_eq (tgt := 649) hx hb d_W_law_594 (by decide) (fun c_5 => ?_) (fun c_5 => ?_)
  · skip
    refine W.widen (k := (35 + 8 * (q + 1))) (n := (56376 + 2600 * (q + 1))) (by omega) (by omega) ?_
    exact kk _ _ _ _ _ hst.2 hE hS (lv_sub hl [0, 1, 2, 3, 4] rfl)
  · skip
    exact absurd c_5 (fun q9 => q9 hst.1)
set_option maxHeartbeats 4000000 in
set_option maxRecDepth 100000 in
theorem lc_10 {p : Program} {l : Launch} {e : Env} {s : State} {m : MethodId} {below : List Frame} {meth : Method} {c : Code} {Q : State → Prop} {D : va_G} {cI cZ cJ cP cO : ClassId} {e0 mi sb L z : Nat} {sa : Nat → Nat} {xs : Nat → Int32} (hx : p.tables.exec = Jvm.exec) (hb : c.code = code) (hml : c.maxLocals = 7) (hown : s.vm.findClass "HarvestStepsLaw" = some m.cls) (hts : ∀ w ∈ Cond.tt :: hw_tbl, w.before #[Value.ref sb] s = true) (hK : va_K D hCl (hTy cI cZ cJ cP cO) s) (hX : fr_X z e0 mi s s.heap) (hTT : fr_T z sa s s.heap) (hl9 : l.stackTraces = false) (hSc : va_X sb L xs s s.heap) (hbl : sb < s.heap.size) (hbA : ¬ fr_A z sb) (he0 : e0 < z) (hL : L ≤ 3587) {q : Nat} (hq : 3 + 7 * q + 7 ≤ L) {b : Nat → Nat} {C : fr_C} {H : Heap} {locs : List Loc} {ls : Array Slot} (hCp : Cpl cI cZ cJ cP cO e0 b C q) (hE : fr_W D hCl z b C H) (hS : va_S (fr_A z) s.heap H locs) (hl : lv_has ls 7 [(4, .int (nI (3 + 7 * q))), (0, .ref sb), (1, .ref (b 0)), (2, .ref (b 40)), (3, .ref (b 30))])
    (kk : ∀ (b' : Nat → Nat) (C' : fr_C) (H' : Heap) (locs' : List Loc) (ls' : Array Slot), Cpl cI cZ cJ cP cO e0 b' C' (q + 1) → fr_W D hCl z b' C' H' → va_S (fr_A z) s.heap H' locs' → lv_has ls' 7 [(4, .int (nI (3 + 7 * q))), (0, .ref sb), (1, .ref (b' 0)), (2, .ref (b' 40)), (3, .ref (b' 30))] → W p l e room_1 s m #[Value.ref sb] below meth c H' locs' (35 + 8 * (q + 1)) (56376 + 2600 * (q + 1)) Q (F0 m 649 ls' [])) : W p l e room_1 s m #[Value.ref sb] below meth c H locs (35 + 8 * q) (56376 + 2600 * q) Q (F0 m 599 ls []) := by
  obtain ⟨pg, gr, lf, n, an, lc, po, ps, rw, tk, dt, n0, th, mc, st, dy, dl, ac, hd, mn, si, fo, ol, li, pl, pf, pr, pa, pt, rr, rd, rg, tp, md, le, aw, cs, lp, f, Fr, o30, hC⟩ := hCp
  obtain ⟨⟨h0, h1, h2, h3, h4, h5, ⟨od, h6⟩, h8, h9⟩, ⟨m0, m6, m7, m8, m9, m10, m12, m13, m14, m15, m16, m18, m19, m20, m21, m22, m24, m25, m26, m28, m29, m30, m31, m32⟩, ⟨h7, hls⟩, h30, hnB, hPL⟩ := id hC
  obtain ⟨g1, g2, g3, g4, g5, g6, g7, g8, g9, g10⟩ := id hnB
  obtain ⟨hr1, hr2⟩ := rw_4500 hnB
  have hN : q ≤ 512 := by omega
  have hT : ∀ w ∈ hw_tbl, w.before #[Value.ref sb] s = true := fun w h => hts w (List.mem_cons_of_mem _ h)
  refine lv_aload_n hx hb d_W_law_599 rfl (lv_at hl 2 rfl) ?_
  refine fr_calli (va_runV (As := []) (rest := []) ⟨hx, hb, hml, hown, hts⟩ (c_X_passed l hE h0) (cwV 0 hts (hw_goodV kw_379 kw_380 kw_381 kw_21 kw_382) rfl rfl rfl (by decide +kernel) ⟨Nat.le_of_ble_eq_true rfl, Nat.le_of_ble_eq_true rfl⟩) ⟨fr_blind, fr_recv hK hE (0, 0) rfl h0 (ci := 0) rfl, fr_pre hE hK⟩ rfl rfl hl.1 rfl (lv_room (Nat.le_of_ble_eq_true rfl)) d_W_law_600 ⟨by show _ ≤ 601024; omega, by show _ ≤ 7293000; omega⟩) hS (fun r_1 u_1 H locs w_1 hE hS => ?_)
  have m0x := m0
  refine lv_aload_n hx hb d_W_law_603 rfl (lv_at hl 3 rfl) ?_
  refine fr_calli (va_runV (As := []) (rest := [.int r_1]) ⟨hx, hb, hml, hown, hts⟩ (c_M_passed l hE m0x) (cwV 0 hts (hw_goodV kw_653 kw_654 kw_655 kw_26 kw_656) rfl rfl rfl (by decide +kernel) ⟨Nat.le_of_ble_eq_true rfl, Nat.le_of_ble_eq_true rfl⟩) ⟨fr_blind, fr_recv hK hE (0, 40) rfl m0x (ci := 5) rfl, fr_pre hE hK⟩ rfl rfl hl.1 rfl (lv_room (Nat.le_of_ble_eq_true rfl)) d_W_law_604 ⟨by show _ ≤ 601024; omega, by show _ ≤ 7293000; omega⟩) hS (fun r_2 u_2 H locs w_2 hE hS => ?_)
  have hst := s_passed hC   (r1 := r_1) (r2 := r_2) (u1 := u_1) (u2 := u_2) w_1 w_2
  refine lv_icmp_eq (tgt := 649) hx hb d_W_law_607 (by decide) (fun c_3 => ?_) (fun c_3 => ?_)
  · skip
    refine W.widen (k := (35 + 8 * (q + 1))) (n := (56376 + 2600 * (q + 1))) (by omega) (by omega) ?_
    exact kk _ _ _ _ _ hst.2 hE hS (lv_sub hl [0, 1, 2, 3, 4] rfl)
  · skip
    exact absurd c_3 (fun q9 => q9 hst.1)
set_option maxHeartbeats 4000000 in
set_option maxRecDepth 100000 in
theorem lc_11 {p : Program} {l : Launch} {e : Env} {s : State} {m : MethodId} {below : List Frame} {meth : Method} {c : Code} {Q : State → Prop} {D : va_G} {cI cZ cJ cP cO : ClassId} {e0 mi sb L z : Nat} {sa : Nat → Nat} {xs : Nat → Int32} (hx : p.tables.exec = Jvm.exec) (hb : c.code = code) (hml : c.maxLocals = 7) (hown : s.vm.findClass "HarvestStepsLaw" = some m.cls) (hts : ∀ w ∈ Cond.tt :: hw_tbl, w.before #[Value.ref sb] s = true) (hK : va_K D hCl (hTy cI cZ cJ cP cO) s) (hX : fr_X z e0 mi s s.heap) (hTT : fr_T z sa s s.heap) (hl9 : l.stackTraces = false) (hSc : va_X sb L xs s s.heap) (hbl : sb < s.heap.size) (hbA : ¬ fr_A z sb) (he0 : e0 < z) (hL : L ≤ 3587) {q : Nat} (hq : 3 + 7 * q + 7 ≤ L) {b : Nat → Nat} {C : fr_C} {H : Heap} {locs : List Loc} {ls : Array Slot} (hCp : Cpl cI cZ cJ cP cO e0 b C q) (hE : fr_W D hCl z b C H) (hS : va_S (fr_A z) s.heap H locs) (hl : lv_has ls 7 [(4, .int (nI (3 + 7 * q))), (0, .ref sb), (1, .ref (b 0)), (2, .ref (b 40)), (3, .ref (b 30))])
    (kk : ∀ (b' : Nat → Nat) (C' : fr_C) (H' : Heap) (locs' : List Loc) (ls' : Array Slot), Cpl cI cZ cJ cP cO e0 b' C' (q + 1) → fr_W D hCl z b' C' H' → va_S (fr_A z) s.heap H' locs' → lv_has ls' 7 [(4, .int (nI (3 + 7 * q))), (0, .ref sb), (1, .ref (b' 0)), (2, .ref (b' 40)), (3, .ref (b' 30))] → W p l e room_1 s m #[Value.ref sb] below meth c H' locs' (35 + 8 * (q + 1)) (56376 + 2600 * (q + 1)) Q (F0 m 649 ls' [])) : W p l e room_1 s m #[Value.ref sb] below meth c H locs (35 + 8 * q) (56376 + 2600 * q) Q (F0 m 612 ls []) := by
  obtain ⟨pg, gr, lf, n, an, lc, po, ps, rw, tk, dt, n0, th, mc, st, dy, dl, ac, hd, mn, si, fo, ol, li, pl, pf, pr, pa, pt, rr, rd, rg, tp, md, le, aw, cs, lp, f, Fr, o30, hC⟩ := hCp
  obtain ⟨⟨h0, h1, h2, h3, h4, h5, ⟨od, h6⟩, h8, h9⟩, ⟨m0, m6, m7, m8, m9, m10, m12, m13, m14, m15, m16, m18, m19, m20, m21, m22, m24, m25, m26, m28, m29, m30, m31, m32⟩, ⟨h7, hls⟩, h30, hnB, hPL⟩ := id hC
  obtain ⟨g1, g2, g3, g4, g5, g6, g7, g8, g9, g10⟩ := id hnB
  obtain ⟨hr1, hr2⟩ := rw_4500 hnB
  have hN : q ≤ 512 := by omega
  have hT : ∀ w ∈ hw_tbl, w.before #[Value.ref sb] s = true := fun w h => hts w (List.mem_cons_of_mem _ h)
  obtain ⟨TA, LG, NM, FF0, ML, TL, TQ, PQ, FN, GG, hTk⟩ := tok_fun hC hN
  refine lv_aload_n hx hb d_W_law_612 rfl (lv_at hl 2 rfl) ?_
  refine lv_aload_n hx hb d_W_law_613 rfl (lv_at hl 1 rfl) ?_
  refine lv_iload hx hb d_W_law_614 (lv_at hl 0 rfl) ?_
  refine lv_iconst (v := 1) hx hb d_W_law_616 (by decide) ?_
  refine lv_iadd hx hb d_W_law_617 ?_
  refine lv_topi (fun y_1 ey_1 => ?_)
  obtain rfl : y_1 = nI (3 + 7 * q + 1) := ey_1.trans (nI_add (3 + 7 * q) 1)
  refine va_sld hx hb hSc hbl hbA hS (i := nI (3 + 7 * q + 1)) (by rintro (y | y); exact nI_pos (by omega) y; rw [nI_clamp (by omega)] at y; omega) d_W_law_618 ?_
  rw [nI_clamp (by omega)]
  refine lv_aload_n hx hb d_W_law_619 rfl (lv_at hl 1 rfl) ?_
  refine lv_iload hx hb d_W_law_620 (lv_at hl 0 rfl) ?_
  refine lv_iconst (v := 2) hx hb d_W_law_622 (by decide) ?_
  refine lv_iadd hx hb d_W_law_623 ?_
  refine lv_topi (fun y_2 ey_2 => ?_)
  obtain rfl : y_2 = nI (3 + 7 * q + 2) := ey_2.trans (nI_add (3 + 7 * q) 2)
  refine va_sld hx hb hSc hbl hbA hS (i := nI (3 + 7 * q + 2)) (by rintro (y | y); exact nI_pos (by omega) y; rw [nI_clamp (by omega)] at y; omega) d_W_law_624 ?_
  rw [nI_clamp (by omega)]
  refine fr_calli (va_runV (As := [.int (xs (3 + 7 * q + 1)), .int (xs (3 + 7 * q + 2))]) (rest := []) ⟨hx, hb, hml, hown, hts⟩ (c_X_about l hE h0 h7 hls (by omega) (mi := mi) (TA := TA) (LG := LG) (NM := NM) (FF := fun j => FF0 j + pg) (ML := ML) (HV := fun j => ol (TL j)) (FO := fun j => fo (TL j)) (AB := fun j => si (TL j)) (MD := md) (PQ := PQ) (FN := FN) (GG := GG) (fun j hj => (hTk j hj).xTok) (xs (3 + 7 * q + 1)) (xs (3 + 7 * q + 2))) (cwV 2 hts (hw_goodV kw_383 kw_384 kw_385 kw_21 kw_386) rfl rfl rfl (by decide +kernel) ⟨Nat.le_of_ble_eq_true rfl, Nat.le_of_ble_eq_true rfl⟩) ⟨fr_blind, fr_recv hK hE (0, 0) rfl h0 (ci := 0) rfl, fr_pre hE hK⟩ rfl rfl hl.1 rfl (lv_room (Nat.le_of_ble_eq_true rfl)) d_W_law_625 ⟨by show _ ≤ 601024; omega, by show _ ≤ 7293000; omega⟩) hS (fun r_3 u_3 H locs w_3 hE hS => ?_)
  have m0x := m0
  have m12x := m12
  have m15x := m15
  have m18x := m18
  have m19x := m19
  have m28x := m28
  have m29x := m29
  refine lv_aload_n hx hb d_W_law_628 rfl (lv_at hl 3 rfl) ?_
  refine lv_aload_n hx hb d_W_law_629 rfl (lv_at hl 1 rfl) ?_
  refine lv_iload hx hb d_W_law_630 (lv_at hl 0 rfl) ?_
  refine lv_iconst (v := 1) hx hb d_W_law_632 (by decide) ?_
  refine lv_iadd hx hb d_W_law_633 ?_
  refine lv_topi (fun y_4 ey_4 => ?_)
  obtain rfl : y_4 = nI (3 + 7 * q + 1) := ey_4.trans (nI_add (3 + 7 * q) 1)
  refine va_sld hx hb hSc hbl hbA hS (i := nI (3 + 7 * q + 1)) (by rintro (y | y); exact nI_pos (by omega) y; rw [nI_clamp (by omega)] at y; omega) d_W_law_634 ?_
  rw [nI_clamp (by omega)]
  refine lv_aload_n hx hb d_W_law_635 rfl (lv_at hl 1 rfl) ?_
  refine lv_iload hx hb d_W_law_636 (lv_at hl 0 rfl) ?_
  refine lv_iconst (v := 2) hx hb d_W_law_638 (by decide) ?_
  refine lv_iadd hx hb d_W_law_639 ?_
  refine lv_topi (fun y_5 ey_5 => ?_)
  obtain rfl : y_5 = nI (3 + 7 * q + 2) := ey_5.trans (nI_add (3 + 7 * q) 2)
  refine va_sld hx hb hSc hbl hbA hS (i := nI (3 + 7 * q + 2)) (by rintro (y | y); exact nI_pos (by omega) y; rw [nI_clamp (by omega)] at y; omega) d_W_law_640 ?_
  rw [nI_clamp (by omega)]
  refine fr_calli (va_runV (As := [.int (xs (3 + 7 * q + 1)), .int (xs (3 + 7 * q + 2))]) (rest := [.int r_3]) ⟨hx, hb, hml, hown, hts⟩ (c_M_about l hE m0x m12x m15x m18x m19x m28x m29x (by omega) (q_tp hC hN) (xs (3 + 7 * q + 1)) (xs (3 + 7 * q + 2))) (cwV 2 hts (hw_goodV kw_657 kw_658 kw_659 kw_26 kw_660) rfl rfl rfl (by decide +kernel) ⟨Nat.le_of_ble_eq_true rfl, Nat.le_of_ble_eq_true rfl⟩) ⟨fr_blind, fr_recv hK hE (0, 40) rfl m0x (ci := 5) rfl, fr_pre hE hK⟩ rfl rfl hl.1 rfl (lv_room (Nat.le_of_ble_eq_true rfl)) d_W_law_641 ⟨by show _ ≤ 601024; omega, by show _ ≤ 7293000; omega⟩) hS (fun r_6 u_6 H locs w_6 hE hS => ?_)
  have hst := s_about hC hN hTk (xs (3 + 7 * q + 1)) (xs (3 + 7 * q + 2)) (r1 := r_3) (r2 := r_6) (u1 := u_3) (u2 := u_6) w_3 w_6
  refine lv_icmp_eq (tgt := 649) hx hb d_W_law_644 (by decide) (fun c_7 => ?_) (fun c_7 => ?_)
  · skip
    refine W.widen (k := (35 + 8 * (q + 1))) (n := (56376 + 2600 * (q + 1))) (by omega) (by omega) ?_
    exact kk _ _ _ _ _ hst.2 hE hS (lv_sub hl [0, 1, 2, 3, 4] rfl)
  · skip
    exact absurd c_7 (fun q9 => q9 hst.1)
