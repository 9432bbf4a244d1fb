/-! THE CLAIM OUT OF ONE WALK OF THE LAW'S BODY. Your part is whole_start (and what it stands on); all else here is the same for every law, but numbers. -/
def R_law : String := "HarvestStepsLaw"
def lw_P (b : Addr) (xs : List Int32) (args : Array Value) (s : State) : Prop := args = #[.ref b] ∧ s.IntsAt b xs ∧ xs.length ≤ 3587 ∧ (Jvm.Cond.and given_1 narrow_1).before args s = true
def lw_Q (_ : Array Value) (s : State) (o : Outcome) (t : State) : Prop := o = .returned (some (.int 1)) ∧ Framed s o t [] 601024 7293000
def lw_Z (below : List Frame) (a : Array Value) (s : State) : State → Prop := fun t => ∃ o, t.status = .running ∧ Ended t below o ∧ lw_Q a s o t
/-- the law's own end, with 1 on the stack, nothing written that was there before, its room as the claim has it -/
theorem lw_ret {p : Program} {l : Launch} {e : Env} {s : State} {m : MethodId} {below : List Frame} {meth : Method} {c : Code} {b : Nat} (hx : p.tables.exec = Jvm.exec) (hb : c.code = code) (hr : meth.sig.returnType = ret) (hlocks : meth.locks = false) {pc : Nat} {H : Heap} {ls : Array Slot} (hdg : decode code pc = .ok (.ireturn, 1)) : W p l e room_1 s m #[Value.ref b] below meth c H [] 601024 7293000 (lw_Z below #[Value.ref b] s) (F0 m pc ls [.int 1]) := by
  intro T hT X
  obtain ⟨fs, hret, hrun, hended, hW, hframe⟩ := X.leave (v := some (.int 1)) (hlocks := hlocks) (fun h => by rw [hr] at h; cases h)
  have hmeth' : T.vm.method? m = some meth := X.method'
  refine ⟨T.setFrames fs, ?_, .returned (some (.int 1)), hrun, hended, rfl, ⟨_, rfl⟩, hW, hframe⟩
  jvm_step X.here [X.here.top, hx, hb, hdg, hmeth', hr, ret, narrow_b1]
  (try refine ⟨rfl, ?_⟩); (try refine ⟨rfl, ?_⟩)
  first | (intro acts; rw [hret _ acts rfl rfl rfl]) | rw [hret _ _ rfl rfl rfl]
  exact Steps.refl _
/-- what holds at the law's entry: the machine, the code, the tables' words (any of lw_tbl by 'hts w (by decide +kernel)'), the script of L ints xs at the cell b, what the Statement gives of the start (any of its parts by flat_of_before) -/
def lw_At (p : Program) (s : State) (m : MethodId) (meth : Method) (c : Code) (b L : Nat) (xs : Nat → Int32) : Prop :=
  p.tables.exec = Jvm.exec ∧ c.code = code ∧ meth.sig.returnType = ret ∧ c.maxLocals = 7 ∧ s.vm.findClass R_law = some m.cls ∧ (∀ w ∈ lw_tbl, w.before #[Value.ref b] s = true) ∧ va_X b L xs s s.heap ∧ b < s.heap.size ∧ meth.locks = false ∧ (Jvm.Cond.and given_1 narrow_1).before #[Value.ref b] s = true
theorem law_le {L k : Nat} (hL : L ≤ 3587) (hk : k ≤ 10000) (h : ¬ nI L - 7 < nI k) : k + 7 ≤ L := by
  have h7 : (7 : Int32).toInt = 7 := rfl
  rw [Int32.lt_iff_toInt_lt, Int32.toInt_sub, nI_toInt (by omega), nI_toInt (by omega), h7, Int.bmod_eq_of_le (by omega) (by omega)] at h
  omega
theorem Cpl.next {cI cZ cJ cP cO : ClassId} {e0 : Nat} {b : Nat → Nat} {C : fr_C} {N : Nat} (h : Cpl cI cZ cJ cP cO e0 b C N) : Cpl cI cZ cJ cP cO e0 b C (N + 1) := by
  obtain ⟨pg, gr, lf, n, an, lc, po, ps, rw, tk, dt, n0, th, mc, st, dy, dl, ac, hd, mn, si, fo, ol, li, pl, pf, pr, pa, pt, rr, rd, rg, tp, md, le, aw, cs, lp, f, Fr, o30, h1, h2, h3, h4, h5, h6⟩ := h
  exact ⟨pg, gr, lf, n, an, lc, po, ps, rw, tk, dt, n0, th, mc, st, dy, dl, ac, hd, mn, si, fo, ol, li, pl, pf, pr, pa, pt, rr, rd, rg, tp, md, le, aw, cs, lp, f, Fr, o30, h1, h2, h3, h4, h5.next, h6⟩
set_option maxHeartbeats 4000000 in
set_option maxRecDepth 100000 in
theorem law_loop {p : Program} {l : Launch} {e : Env} {s : State} {m : MethodId} {below : List Frame} {meth : Method} {c : Code} {D : va_G} {cI cZ cJ cP cO : ClassId} {e0 mi sb L z : Nat} {sa : Nat → Nat} {xs : Nat → Int32} (hx : p.tables.exec = Jvm.exec) (hb : c.code = code) (hml : c.maxLocals = 7) (hown : s.vm.findClass "HarvestStepsLaw" = some m.cls) (hts : ∀ w ∈ Cond.tt :: hw_tbl, w.before #[Value.ref sb] s = true) (hK : va_K D hCl (hTy cI cZ cJ cP cO) s) (hX : fr_X z e0 mi s s.heap) (hTT : fr_T z sa s s.heap) (hl9 : l.stackTraces = false) (hSc : va_X sb L xs s s.heap) (hbl : sb < s.heap.size) (hbA : ¬ fr_A z sb) (he0 : e0 < z) (hL : L ≤ 3587) (hr : meth.sig.returnType = ret) (hlocks : meth.locks = false) (hz9 : z = s.heap.size) {b : Nat → Nat} {C : fr_C} {H : Heap} {locs : List Loc} {ls : Array Slot} (hCp : Cpl cI cZ cJ cP cO e0 b C 0) (hE : fr_W D hCl z b C H) (hS : va_S (fr_A z) s.heap H locs) (hl : lv_has ls 7 [(4, .int (nI (3 + 7 * 0))), (0, .ref sb), (1, .ref (b 0)), (2, .ref (b 40)), (3, .ref (b 30))]) : W p l e room_1 s m #[Value.ref sb] below meth c H locs (35 + 8 * 0) (56376 + 2600 * 0) (lw_Z below #[Value.ref sb] s) (F0 m 53 ls []) := by
  refine fr_loopN (pc := 53) (fun q => 35 + 8 * q) (fun q => 56376 + 2600 * q) (fun n9 q H locs ls => n9 + q = 514 ∧ q ≤ 513 ∧ ∃ b C, Cpl cI cZ cJ cP cO e0 b C q ∧ fr_W D hCl z b C H ∧ va_S (fr_A z) s.heap H locs ∧ lv_has ls 7 [(4, .int (nI (3 + 7 * q))), (0, .ref sb), (1, .ref (b 0)), (2, .ref (b 40)), (3, .ref (b 30))]) (fun q H locs ls h => by obtain ⟨h1, h2, -⟩ := h; omega) (fun n9 q H locs ls hI ih => ?_) 514 0 _ _ _ ⟨rfl, by decide, b, C, hCp, hE, hS, hl⟩
  clear hCp hE hS hl
  clear b C
  obtain ⟨hi1, hi2, b, C, hCp, hE, hS, hl⟩ := hI
  show W p l e room_1 s m #[Value.ref sb] below meth c H locs (35 + 8 * q) (56376 + 2600 * q) (lw_Z below #[Value.ref sb] s) (F0 m 53 ls [])
  have hT : ∀ w ∈ hw_tbl, w.before #[Value.ref sb] s = true := fun w h => hts w (List.mem_cons_of_mem _ h)
  refine lv_iload hx hb d_W_law_53 (lv_at hl 0 rfl) ?_
  refine lv_aload_n hx hb d_W_law_55 rfl (lv_at hl 1 rfl) ?_
  refine va_slen hx hb hSc hbl hbA hS d_W_law_56 ?_
  refine lv_bipush (v := 7) hx hb d_W_law_57 (by decide) ?_
  refine lv_isub hx hb d_W_law_59 ?_
  refine lv_icmp_gt (tgt := 655) hx hb d_W_law_60 (by decide) (fun c_1 => ?_) (fun c_1 => ?_)
  · skip
    refine lv_iconst (v := 1) hx hb d_W_law_655 (by decide) ?_
    refine va_forget (fun q9 h9 => by rw [← hz9]; exact hS.2.2 q9 h9) ?_
    refine W.widen (k := 601024) (n := 7293000) (by omega) (by omega) ?_
    exact lw_ret hx hb hr hlocks d_W_law_656
  · skip
    have hq : 3 + 7 * q + 7 ≤ L := law_le hL (by omega) c_1
    have hkk : ∀ (b' : Nat → Nat) (C' : fr_C) (H' : Heap) (locs' : List Loc) (ls' : Array Slot), Cpl cI cZ cJ cP cO e0 b' C' (q + 1) → fr_W D hCl z b' C' H' → va_S (fr_A z) s.heap H' locs' → lv_has ls' 7 [(4, .int (nI (3 + 7 * q))), (0, .ref sb), (1, .ref (b' 0)), (2, .ref (b' 40)), (3, .ref (b' 30))] → W p l e room_1 s m #[Value.ref sb] below meth c H' locs' (35 + 8 * (q + 1)) (56376 + 2600 * (q + 1)) (lw_Z below #[Value.ref sb] s) (F0 m 649 ls' []) := by
      intro b' C' H' locs' ls' y1 y2 y3 y4
      refine lv_iinc (v := nI (3 + 7 * (q + 1))) (lv' := [(4, .int (nI (3 + 7 * (q + 1)))), (0, .ref sb), (1, .ref (b' 0)), (2, .ref (b' 40)), (3, .ref (b' 30))]) hx hb d_W_law_649 y4 (k := 0) rfl ((nI_add (3 + 7 * q) 7).trans (congrArg nI (by omega))) (by decide) rfl (fun ls9 y5 => ?_)
      refine lv_goto (tgt := 53) hx hb d_W_law_652 (by decide) ?_
      exact ih (q + 1) H' locs' ls9 ⟨by omega, by omega, b', C', y1, y2, y3, y5⟩
    refine lv_aload_n hx hb d_W_law_63 rfl (lv_at hl 1 rfl) ?_
    refine lv_iload hx hb d_W_law_64 (lv_at hl 0 rfl) ?_
    refine va_sld hx hb hSc hbl hbA hS (i := nI (3 + 7 * q)) (by rintro (y | y); exact nI_pos (by omega) y; rw [nI_clamp (by omega)] at y; omega) d_W_law_66 ?_
    rw [nI_clamp (by omega)]
    refine lv_bipush (v := 15) hx hb d_W_law_67 (by decide) ?_
    refine lv_iand hx hb d_W_law_69 ?_
    by_cases s_2_0 : (xs (3 + 7 * q)) &&& 15 = 0
    · skip
      refine lv_tableIn (tgt := 132) (off := 62) hx hb d_W_law_70 (by rw [s_2_0]; decide) (by rw [s_2_0]; decide) (by rw [s_2_0]; rfl) (by decide) ?_
      exact lc_0 hx hb hml hown hts hK hX hTT hl9 hSc hbl hbA he0 hL hq hCp hE hS (lv_sub hl [0, 1, 2, 3, 4] rfl) hkk
    by_cases s_2_1 : (xs (3 + 7 * q)) &&& 15 = 1
    · skip
      refine lv_tableIn (tgt := 169) (off := 99) hx hb d_W_law_70 (by rw [s_2_1]; decide) (by rw [s_2_1]; decide) (by rw [s_2_1]; rfl) (by decide) ?_
      exact lc_1 hx hb hml hown hts hK hX hTT hl9 hSc hbl hbA he0 hL hq hCp hE hS (lv_sub hl [0, 1, 2, 3, 4] rfl) hkk
    by_cases s_2_2 : (xs (3 + 7 * q)) &&& 15 = 2
    · skip
      refine lv_tableIn (tgt := 206) (off := 136) hx hb d_W_law_70 (by rw [s_2_2]; decide) (by rw [s_2_2]; decide) (by rw [s_2_2]; rfl) (by decide) ?_
      exact lc_2 hx hb hml hown hts hK hX hTT hl9 hSc hbl hbA he0 hL hq hCp hE hS (lv_sub hl [0, 1, 2, 3, 4] rfl) hkk
    by_cases s_2_3 : (xs (3 + 7 * q)) &&& 15 = 3
    · skip
      refine lv_tableIn (tgt := 243) (off := 173) hx hb d_W_law_70 (by rw [s_2_3]; decide) (by rw [s_2_3]; decide) (by rw [s_2_3]; rfl) (by decide) ?_
      exact lc_3 hx hb hml hown hts hK hX hTT hl9 hSc hbl hbA he0 hL hq hCp hE hS (lv_sub hl [0, 1, 2, 3, 4] rfl) hkk
    by_cases s_2_4 : (xs (3 + 7 * q)) &&& 15 = 4
    · skip
      refine lv_tableIn (tgt := 296) (off := 226) hx hb d_W_law_70 (by rw [s_2_4]; decide) (by rw [s_2_4]; decide) (by rw [s_2_4]; rfl) (by decide) ?_
      exact lc_4 hx hb hml hown hts hK hX hTT hl9 hSc hbl hbA he0 hL hq hCp hE hS (lv_sub hl [0, 1, 2, 3, 4] rfl) hkk
    by_cases s_2_5 : (xs (3 + 7 * q)) &&& 15 = 5
    · skip
      refine lv_tableIn (tgt := 383) (off := 313) hx hb d_W_law_70 (by rw [s_2_5]; decide) (by rw [s_2_5]; decide) (by rw [s_2_5]; rfl) (by decide) ?_
      exact lc_5 hx hb hml hown hts hK hX hTT hl9 hSc hbl hbA he0 hL hq hCp hE hS (lv_sub hl [0, 1, 2, 3, 4] rfl) hkk
    by_cases s_2_6 : (xs (3 + 7 * q)) &&& 15 = 6
    · skip
      refine lv_tableIn (tgt := 432) (off := 362) hx hb d_W_law_70 (by rw [s_2_6]; decide) (by rw [s_2_6]; decide) (by rw [s_2_6]; rfl) (by decide) ?_
      exact lc_6 hx hb hml hown hts hK hX hTT hl9 hSc hbl hbA he0 hL hq hCp hE hS (lv_sub hl [0, 1, 2, 3, 4] rfl) hkk
    by_cases s_2_7 : (xs (3 + 7 * q)) &&& 15 = 7
    · skip
      refine lv_tableIn (tgt := 457) (off := 387) hx hb d_W_law_70 (by rw [s_2_7]; decide) (by rw [s_2_7]; decide) (by rw [s_2_7]; rfl) (by decide) ?_
      exact lc_7 hx hb hml hown hts hK hX hTT hl9 hSc hbl hbA he0 hL hq hCp hE hS (lv_sub hl [0, 1, 2, 3, 4] rfl) hkk
    by_cases s_2_8 : (xs (3 + 7 * q)) &&& 15 = 8
    · skip
      refine lv_tableIn (tgt := 537) (off := 467) hx hb d_W_law_70 (by rw [s_2_8]; decide) (by rw [s_2_8]; decide) (by rw [s_2_8]; rfl) (by decide) ?_
      exact lc_8 hx hb hml hown hts hK hX hTT hl9 hSc hbl hbA he0 hL hq hCp hE hS (lv_sub hl [0, 1, 2, 3, 4] rfl) hkk
    by_cases s_2_9 : (xs (3 + 7 * q)) &&& 15 = 9
    · skip
      refine lv_tableIn (tgt := 574) (off := 504) hx hb d_W_law_70 (by rw [s_2_9]; decide) (by rw [s_2_9]; decide) (by rw [s_2_9]; rfl) (by decide) ?_
      exact lc_9 hx hb hml hown hts hK hX hTT hl9 hSc hbl hbA he0 hL hq hCp hE hS (lv_sub hl [0, 1, 2, 3, 4] rfl) hkk
    by_cases s_2_10 : (xs (3 + 7 * q)) &&& 15 = 10
    · skip
      refine lv_tableIn (tgt := 599) (off := 529) hx hb d_W_law_70 (by rw [s_2_10]; decide) (by rw [s_2_10]; decide) (by rw [s_2_10]; rfl) (by decide) ?_
      exact lc_10 hx hb hml hown hts hK hX hTT hl9 hSc hbl hbA he0 hL hq hCp hE hS (lv_sub hl [0, 1, 2, 3, 4] rfl) hkk
    by_cases s_2_11 : (xs (3 + 7 * q)) &&& 15 = 11
    · skip
      refine lv_tableIn (tgt := 612) (off := 542) hx hb d_W_law_70 (by rw [s_2_11]; decide) (by rw [s_2_11]; decide) (by rw [s_2_11]; rfl) (by decide) ?_
      exact lc_11 hx hb hml hown hts hK hX hTT hl9 hSc hbl hbA he0 hL hq hCp hE hS (lv_sub hl [0, 1, 2, 3, 4] rfl) hkk
    refine lv_tableOut (tgt := 649) hx hb d_W_law_70 (by have a_0 := lv_neT s_2_0 (a := 0) rfl; have a_1 := lv_neT s_2_1 (a := 1) rfl; have a_2 := lv_neT s_2_2 (a := 2) rfl; have a_3 := lv_neT s_2_3 (a := 3) rfl; have a_4 := lv_neT s_2_4 (a := 4) rfl; have a_5 := lv_neT s_2_5 (a := 5) rfl; have a_6 := lv_neT s_2_6 (a := 6) rfl; have a_7 := lv_neT s_2_7 (a := 7) rfl; have a_8 := lv_neT s_2_8 (a := 8) rfl; have a_9 := lv_neT s_2_9 (a := 9) rfl; have a_10 := lv_neT s_2_10 (a := 10) rfl; have a_11 := lv_neT s_2_11 (a := 11) rfl; omega) (by decide) ?_
    refine W.widen (k := (35 + 8 * (q + 1))) (n := (56376 + 2600 * (q + 1))) (by omega) (by omega) ?_
    exact hkk _ _ _ _ _ hCp.next hE hS (lv_sub hl [0, 1, 2, 3, 4] rfl)
theorem fX_c {b b' : Nat → Nat} (h : ∀ i, i < 10 → b' i = b i) (pg gr lf n an lc po : Nat) : fX b' pg gr lf n an lc po = fX b pg gr lf n an lc po := by
  simp only [fX, h 1 (by decide), h 2 (by decide), h 3 (by decide), h 4 (by decide), h 5 (by decide), h 6 (by decide), h 7 (by decide), h 8 (by decide), h 9 (by decide)]
set_option maxHeartbeats 4000000 in
set_option maxRecDepth 100000 in
theorem law_start {p : Program} {l : Launch} {e : Env} {s : State} {m : MethodId} {below : List Frame} {meth : Method} {c : Code} {D : va_G} {cI cZ cJ cP cO : ClassId} {e0 mi sb L z : Nat} {sa : Nat → Nat} {xs : Nat → Int32} (hx : p.tables.exec = Jvm.exec) (hb : c.code = code) (hml : c.maxLocals = 7) (hown : s.vm.findClass "HarvestStepsLaw" = some m.cls) (hts : ∀ w ∈ Cond.tt :: hw_tbl, w.before #[Value.ref sb] s = true) (hK : va_K D hCl (hTy cI cZ cJ cP cO) s) (hX : fr_X z e0 mi s s.heap) (hTT : fr_T z sa s s.heap) (hl9 : l.stackTraces = false) (hSc : va_X sb L xs s s.heap) (hbl : sb < s.heap.size) (hbA : ¬ fr_A z sb) (he0 : e0 < z) (hL : L ≤ 3587) (hr : meth.sig.returnType = ret) (hlocks : meth.locks = false) (hz9 : z = s.heap.size) : W p l e room_1 s m #[Value.ref sb] below meth c s.heap [] 0 0 (lw_Z below #[Value.ref sb] s) (entryFrame m ([Value.ref sb] : List Value).toArray 7) := by
  subst hz9
  have hT : ∀ w ∈ hw_tbl, w.before #[Value.ref sb] s = true := fun w h => hts w (List.mem_cons_of_mem _ h)
  have hE : fr_W D hCl s.heap.size (fun _ => 0) (fun _ => none) s.heap := fr_W.none
  have hS : va_S (fr_A s.heap.size) s.heap s.heap [] := va_S.rf
  obtain ⟨v0, hv0⟩ : ∃ v, v = if 0 < L then xs 0 else 0 := ⟨_, rfl⟩
  obtain ⟨v1, hv1⟩ : ∃ v, v = if 1 < L then xs 1 else 0 := ⟨_, rfl⟩
  obtain ⟨v2, hv2⟩ : ∃ v, v = if 2 < L then xs 2 else 0 := ⟨_, rfl⟩
  have hl := lv_entry ([.ref sb]) (n := 7) (Nat.le_of_ble_eq_true rfl)
  rw [lg_entry_eq]
  generalize (lg_sl ([.ref sb]) ++ List.replicate (7 - (lg_sl ([.ref sb])).length) Slot.unset).toArray = ls at hl ⊢
  have hl : lv_has ls 7 [(0, .ref sb)] := hl
  refine fr_new (ci := 0) (fs := [.int 0, .int 0, .int 0, .null, .null, .null, .null, .null, .int 0, .int 0, .null, .int 0, .null, .null, .null, .int 0]) (Cn := hR_0) (T := hF_0) (N := 16) hx hb hT hi_0 hy_0 ho_0 hown (hT _ kw_39) (hT _ kw_40) (hT _ kw_21) hK hE hS 0 rfl (fun j hj => by rcases (show j = 0 ∨ j = 1 ∨ j = 2 ∨ j = 3 ∨ j = 4 ∨ j = 5 ∨ j = 6 ∨ j = 7 ∨ j = 8 ∨ j = 9 ∨ j = 10 ∨ j = 11 ∨ j = 12 ∨ j = 13 ∨ j = 14 ∨ j = 15 by omega) with rfl | rfl | rfl | rfl | rfl | rfl | rfl | rfl | rfl | rfl | rfl | rfl | rfl | rfl | rfl | rfl <;> rfl) (Nat.le_of_ble_eq_true rfl) (Nat.le_of_ble_eq_true rfl) d_W_law_0 (fun q0 H nq0 hE hS => ?_)
  refine W.widen (k := 1) (n := 16) (Nat.le_of_ble_eq_true rfl) (Nat.le_of_ble_eq_true rfl) ?_
  refine lv_dup hx hb d_W_law_3 rfl ?_
  refine lv_aload_n hx hb d_W_law_4 rfl (lv_at hl 0 rfl) ?_
  refine lv_iconst (v := 0) hx hb d_W_law_5 (by decide) ?_
  refine fr_calli (va_runS (As := [.ref sb, .int (nI 0)]) (rest := [.ref q0, .ref q0]) ⟨hx, hb, hml, hown, hts⟩ (c_W_cell l hE (cI := cI) (cZ := cZ) (cJ := cJ) (cP := cP) (cO := cO) (sb := sb) (xs := xs) hL 0 (by decide)) (va_cwS 2 hts (hw_goodS kw_387 kw_388 kw_20 kw_389) rfl rfl rfl (by decide +kernel) ⟨Nat.le_of_ble_eq_true rfl, Nat.le_of_ble_eq_true rfl⟩) ⟨fr_blindS, fr_preS hE hK hSc hbl hS⟩ rfl rfl hl.1 rfl (lv_room (Nat.le_of_ble_eq_true rfl)) d_W_law_6 ⟨Nat.le_of_ble_eq_true rfl, Nat.le_of_ble_eq_true rfl⟩) hS (fun r_1 u_3 H locs w_2 hE hS => ?_)
  obtain rfl : v0 = r_1 := hv0.trans (Eq.symm w_2)
  refine lv_aload_n hx hb d_W_law_9 rfl (lv_at hl 0 rfl) ?_
  refine lv_iconst (v := 1) hx hb d_W_law_10 (by decide) ?_
  refine fr_calli (va_runS (As := [.ref sb, .int (nI 1)]) (rest := [.int v0, .ref q0, .ref q0]) ⟨hx, hb, hml, hown, hts⟩ (c_W_cell l hE (cI := cI) (cZ := cZ) (cJ := cJ) (cP := cP) (cO := cO) (sb := sb) (xs := xs) hL 1 (by decide)) (va_cwS 2 hts (hw_goodS kw_387 kw_388 kw_20 kw_389) rfl rfl rfl (by decide +kernel) ⟨Nat.le_of_ble_eq_true rfl, Nat.le_of_ble_eq_true rfl⟩) ⟨fr_blindS, fr_preS hE hK hSc hbl hS⟩ rfl rfl hl.1 rfl (lv_room (Nat.le_of_ble_eq_true rfl)) d_W_law_11 ⟨Nat.le_of_ble_eq_true rfl, Nat.le_of_ble_eq_true rfl⟩) hS (fun r_4 u_6 H locs w_5 hE hS => ?_)
  obtain rfl : v1 = r_4 := hv1.trans (Eq.symm w_5)
  refine lv_aload_n hx hb d_W_law_14 rfl (lv_at hl 0 rfl) ?_
  refine lv_iconst (v := 2) hx hb d_W_law_15 (by decide) ?_
  refine fr_calli (va_runS (As := [.ref sb, .int (nI 2)]) (rest := [.int v1, .int v0, .ref q0, .ref q0]) ⟨hx, hb, hml, hown, hts⟩ (c_W_cell l hE (cI := cI) (cZ := cZ) (cJ := cJ) (cP := cP) (cO := cO) (sb := sb) (xs := xs) hL 2 (by decide)) (va_cwS 2 hts (hw_goodS kw_387 kw_388 kw_20 kw_389) rfl rfl rfl (by decide +kernel) ⟨Nat.le_of_ble_eq_true rfl, Nat.le_of_ble_eq_true rfl⟩) ⟨fr_blindS, fr_preS hE hK hSc hbl hS⟩ rfl rfl hl.1 rfl (lv_room (Nat.le_of_ble_eq_true rfl)) d_W_law_16 ⟨Nat.le_of_ble_eq_true rfl, Nat.le_of_ble_eq_true rfl⟩) hS (fun r_7 u_9 H locs w_8 hE hS => ?_)
  obtain rfl : v2 = r_7 := hv2.trans (Eq.symm w_8)
  refine fr_callv (va_runI (As := [.int v0, .int v1, .int v2]) (rest := [.ref q0]) ⟨hx, hb, hml, hown, hts⟩ (c_X_init l hE rfl v0 v1 v2) (cwI 3 hts (hw_good kw_43) rfl rfl rfl (hT _ kw_21) (hT _ kw_41) (hT _ kw_42) rfl (by decide +kernel) ⟨Nat.le_of_ble_eq_true rfl, Nat.le_of_ble_eq_true rfl⟩) ⟨fr_blindX, fr_preX hE hK hX hS⟩ rfl rfl hl.1 rfl (lv_room (Nat.le_of_ble_eq_true rfl)) d_W_law_19 ⟨Nat.le_of_ble_eq_true rfl, Nat.le_of_ble_eq_true rfl⟩) hS (fun u_10 H locs w_10 hE hS => ?_)
  obtain ⟨bx, Cx⟩ := u_10
  obtain ⟨f0, f1, f2, f3, f4, f5, f6, f7, f8, f9, fag, fb0, fb⟩ := w_10
  replace f0 : Cx (0, 0) = some (.inr (0, fX bx (clN v0 1 50) (clN v1 1 100) (clN v2 0 1000000) 0 0 0 0)) := f0
  replace f1 : Cx (0, 1) = some (.inl (cZ, 6, .inl (fun _ => 0))) := f1
  replace f2 : Cx (0, 2) = some (.inl (cI, 150, .inl (fun _ => 0))) := f2
  replace f3 : Cx (0, 3) = some (.inl (cI, 150, .inl (fun _ => 0))) := f3
  replace f4 : Cx (0, 4) = some (.inl (cZ, 150, .inl (fun _ => 0))) := f4
  replace f5 : Cx (0, 5) = some (.inl (cI, 150, .inl (fun _ => 0))) := f5
  replace f6 : Cx (0, 6) = some (.inl (cI, 150, .inl (fun _ => 0))) := f6
  replace f7 : Cx (0, 7) = some (.inr (4, [.ref e0, .int 0, .int 0])) := f7
  replace f8 : Cx (0, 8) = some (.inl (cP, 10, .inr (.inr (.inr (.inr (fun _ => none)))))) := f8
  replace f9 : Cx (0, 9) = some (.inl (cI, 10, .inl (fun _ => 0))) := f9
  replace fb0 : bx 0 = q0 := fb0
  replace hE : fr_W D hCl s.heap.size bx Cx H := hE
  refine W.eq (g2 := F0 m 22 ls [.ref (bx 0)]) (by rw [fb0]) ?_
  refine lv_astore_n (lv' := [(1, .ref (bx 0)), (0, .ref sb)]) hx hb d_W_law_22 rfl hl (by decide) rfl (fun ls hl => ?_)
  refine fr_new (ci := 5) (fs := [.int 0, .int 0, .int 0, .int 0, .int 0, .int 0, .null, .null, .null, .null, .null, .int 0, .null, .null, .null, .null, .null, .int 0, .null, .null, .null, .null, .null, .int 0, .null, .null, .null, .int 0, .null, .null, .null, .null, .null, .int 0]) (Cn := hR_5) (T := hF_5) (N := 34) hx hb hT hi_5 hy_5 ho_5 hown (hT _ kw_467) (hT _ kw_468) (hT _ kw_26) hK hE hS 40 rfl (fun j hj => by rcases (show j = 0 ∨ j = 1 ∨ j = 2 ∨ j = 3 ∨ j = 4 ∨ j = 5 ∨ j = 6 ∨ j = 7 ∨ j = 8 ∨ j = 9 ∨ j = 10 ∨ j = 11 ∨ j = 12 ∨ j = 13 ∨ j = 14 ∨ j = 15 ∨ j = 16 ∨ j = 17 ∨ j = 18 ∨ j = 19 ∨ j = 20 ∨ j = 21 ∨ j = 22 ∨ j = 23 ∨ j = 24 ∨ j = 25 ∨ j = 26 ∨ j = 27 ∨ j = 28 ∨ j = 29 ∨ j = 30 ∨ j = 31 ∨ j = 32 ∨ j = 33 by omega) with rfl | rfl | rfl | rfl | rfl | rfl | rfl | rfl | rfl | rfl | rfl | rfl | rfl | rfl | rfl | rfl | rfl | rfl | rfl | rfl | rfl | rfl | rfl | rfl | rfl | rfl | rfl | rfl | rfl | rfl | rfl | rfl | rfl | rfl <;> rfl) (Nat.le_of_ble_eq_true rfl) (Nat.le_of_ble_eq_true rfl) d_W_law_23 (fun q40 H nq40 hE hS => ?_)
  refine W.widen (k := 11) (n := 829) (Nat.le_of_ble_eq_true rfl) (Nat.le_of_ble_eq_true rfl) ?_
  refine lv_dup hx hb d_W_law_26 rfl ?_
  refine lv_aload_n hx hb d_W_law_27 rfl (lv_at hl 1 rfl) ?_
  refine lv_iconst (v := 0) hx hb d_W_law_28 (by decide) ?_
  refine fr_calli (va_runS (As := [.ref sb, .int (nI 0)]) (rest := [.ref q40, .ref q40]) ⟨hx, hb, hml, hown, hts⟩ (c_W_cell l hE (cI := cI) (cZ := cZ) (cJ := cJ) (cP := cP) (cO := cO) (sb := sb) (xs := xs) hL 0 (by decide)) (va_cwS 2 hts (hw_goodS kw_387 kw_388 kw_20 kw_389) rfl rfl rfl (by decide +kernel) ⟨Nat.le_of_ble_eq_true rfl, Nat.le_of_ble_eq_true rfl⟩) ⟨fr_blindS, fr_preS hE hK hSc hbl hS⟩ rfl rfl hl.1 rfl (lv_room (Nat.le_of_ble_eq_true rfl)) d_W_law_29 ⟨Nat.le_of_ble_eq_true rfl, Nat.le_of_ble_eq_true rfl⟩) hS (fun r_11 u_13 H locs w_12 hE hS => ?_)
  obtain rfl : v0 = r_11 := hv0.trans (Eq.symm w_12)
  refine lv_aload_n hx hb d_W_law_32 rfl (lv_at hl 1 rfl) ?_
  refine lv_iconst (v := 1) hx hb d_W_law_33 (by decide) ?_
  refine fr_calli (va_runS (As := [.ref sb, .int (nI 1)]) (rest := [.int v0, .ref q40, .ref q40]) ⟨hx, hb, hml, hown, hts⟩ (c_W_cell l hE (cI := cI) (cZ := cZ) (cJ := cJ) (cP := cP) (cO := cO) (sb := sb) (xs := xs) hL 1 (by decide)) (va_cwS 2 hts (hw_goodS kw_387 kw_388 kw_20 kw_389) rfl rfl rfl (by decide +kernel) ⟨Nat.le_of_ble_eq_true rfl, Nat.le_of_ble_eq_true rfl⟩) ⟨fr_blindS, fr_preS hE hK hSc hbl hS⟩ rfl rfl hl.1 rfl (lv_room (Nat.le_of_ble_eq_true rfl)) d_W_law_34 ⟨Nat.le_of_ble_eq_true rfl, Nat.le_of_ble_eq_true rfl⟩) hS (fun r_14 u_16 H locs w_15 hE hS => ?_)
  obtain rfl : v1 = r_14 := hv1.trans (Eq.symm w_15)
  refine lv_aload_n hx hb d_W_law_37 rfl (lv_at hl 1 rfl) ?_
  refine lv_iconst (v := 2) hx hb d_W_law_38 (by decide) ?_
  refine fr_calli (va_runS (As := [.ref sb, .int (nI 2)]) (rest := [.int v1, .int v0, .ref q40, .ref q40]) ⟨hx, hb, hml, hown, hts⟩ (c_W_cell l hE (cI := cI) (cZ := cZ) (cJ := cJ) (cP := cP) (cO := cO) (sb := sb) (xs := xs) hL 2 (by decide)) (va_cwS 2 hts (hw_goodS kw_387 kw_388 kw_20 kw_389) rfl rfl rfl (by decide +kernel) ⟨Nat.le_of_ble_eq_true rfl, Nat.le_of_ble_eq_true rfl⟩) ⟨fr_blindS, fr_preS hE hK hSc hbl hS⟩ rfl rfl hl.1 rfl (lv_room (Nat.le_of_ble_eq_true rfl)) d_W_law_39 ⟨Nat.le_of_ble_eq_true rfl, Nat.le_of_ble_eq_true rfl⟩) hS (fun r_17 u_19 H locs w_18 hE hS => ?_)
  obtain rfl : v2 = r_17 := hv2.trans (Eq.symm w_18)
  refine fr_callv (va_runI (As := [.int v0, .int v1, .int v2]) (rest := [.ref q40]) ⟨hx, hb, hml, hown, hts⟩ (c_M_init l hE rfl v0 v1 v2) (cwI 3 hts (hw_good kw_471) rfl rfl rfl (hT _ kw_26) (hT _ kw_469) (hT _ kw_470) rfl (by decide +kernel) ⟨Nat.le_of_ble_eq_true rfl, Nat.le_of_ble_eq_true rfl⟩) ⟨fr_blind, fr_pre hE hK⟩ rfl rfl hl.1 rfl (lv_room (Nat.le_of_ble_eq_true rfl)) d_W_law_42 ⟨Nat.le_of_ble_eq_true rfl, Nat.le_of_ble_eq_true rfl⟩) hS (fun u_20 H locs w_20 hE hS => ?_)
  obtain ⟨bm, Cm⟩ := u_20
  obtain ⟨aw0, haw0, k0, k6, k7, k8, k9, k10, k12, k13, k14, k15, k16, k18, k19, k20, k21, k22, k24, k25, k26, k28, k29, k30, k31, k32, gag, gb40, gb⟩ := w_20
  replace k0 : Cm (0, 40) = some (.inr (5, fM bm 0 (clN v0 1 50) (clN v1 1 100) (clN v2 0 1000000) 0 0 0 0 0 0 0)) := k0
  replace k6 : Cm (0, 46) = some (.inl (cI, 150, .inl (fun _ => 0))) := k6
  replace k7 : Cm (0, 47) = some (.inl (cI, 150, .inl (fun _ => 0))) := k7
  replace k8 : Cm (0, 48) = some (.inl (cZ, 150, .inl (fun _ => 0))) := k8
  replace k9 : Cm (0, 49) = some (.inl (cI, 150, .inl (fun _ => 0))) := k9
  replace k10 : Cm (0, 50) = some (.inl (cZ, 6, .inl (fun _ => 0))) := k10
  replace k12 : Cm (0, 52) = some (.inl (cI, 30, .inl (fun _ => 0))) := k12
  replace k13 : Cm (0, 53) = some (.inl (cI, 30, .inl (fun _ => 0))) := k13
  replace k14 : Cm (0, 54) = some (.inl (cI, 30, .inl (fun _ => 0))) := k14
  replace k15 : Cm (0, 55) = some (.inl (cI, 30, .inl (fun _ => 0))) := k15
  replace k16 : Cm (0, 56) = some (.inl (cI, 4500, .inl (fun _ => 0))) := k16
  replace k18 : Cm (0, 58) = some (.inl (cI, 4600, .inl (fun _ => 0))) := k18
  replace k19 : Cm (0, 59) = some (.inl (cI, 4600, .inl (fun _ => 0))) := k19
  replace k20 : Cm (0, 60) = some (.inl (cI, 4600, .inl (fun _ => 0))) := k20
  replace k21 : Cm (0, 61) = some (.inl (cI, 4600, .inl (fun _ => 0))) := k21
  replace k22 : Cm (0, 62) = some (.inl (cI, 4600, .inl (fun _ => 0))) := k22
  replace k24 : Cm (0, 64) = some (.inl (cI, 4500, .inl (fun _ => 0))) := k24
  replace k25 : Cm (0, 65) = some (.inl (cI, 4500, .inl (fun _ => 0))) := k25
  replace k26 : Cm (0, 66) = some (.inl (cZ, 4500, .inl (fun _ => 0))) := k26
  replace k28 : Cm (0, 68) = some (.inl (cI, 4600, .inl (fun _ => 0))) := k28
  replace k29 : Cm (0, 69) = some (.inl (cI, 4600, .inl (fun _ => 0))) := k29
  replace k30 : Cm (0, 70) = some (.inl (cI, 4600, .inl (fun _ => 0))) := k30
  replace k31 : Cm (0, 71) = some (.inl (cI, 10, .inl aw0)) := k31
  replace k32 : Cm (0, 72) = some (.inl (cI, 10, .inl (fun _ => 0))) := k32
  replace gag : fr_ag [(0, 40), (0, 46), (0, 47), (0, 48), (0, 49), (0, 50), (0, 52), (0, 53), (0, 54), (0, 55), (0, 56), (0, 58), (0, 59), (0, 60), (0, 61), (0, 62), (0, 64), (0, 65), (0, 66), (0, 68), (0, 69), (0, 70), (0, 71), (0, 72)] Cm (fr_up Cx (0, 40) (.inr (5, [.int 0, .int 0, .int 0, .int 0, .int 0, .int 0, .null, .null, .null, .null, .null, .int 0, .null, .null, .null, .null, .null, .int 0, .null, .null, .null, .null, .null, .int 0, .null, .null, .null, .int 0, .null, .null, .null, .null, .null, .int 0]))) := gag
  replace gb40 : bm 40 = q40 := gb40
  replace gb : ∀ i, i < 40 → bm i = fr_ub bx 40 q40 i := gb
  replace hE : fr_W D hCl s.heap.size bm Cm H := hE
  replace hl : lv_has ls 7 [(1, .ref (bm 0)), (0, .ref sb)] := by rw [show bm 0 = bx 0 from gb 0 (by decide)]; exact hl
  refine W.eq (g2 := F0 m 45 ls [.ref (bm 40)]) (by rw [gb40]) ?_
  refine lv_astore_n (lv' := [(2, .ref (bm 40)), (1, .ref (bm 0)), (0, .ref sb)]) hx hb d_W_law_45 rfl hl (by decide) rfl (fun ls hl => ?_)
  refine lv_iconst (v := 1) hx hb d_W_law_46 (by decide) ?_
  refine fr_newa (atype := .long) (ty := .long) (a0 := (1, .inr (.inl (fun _ => 0)))) hx hb (hT _ kw_661) rfl hK hE hS 30 2 rfl 1 (fun _ => rfl) (by decide) (by decide) (by decide) (Nat.le_of_ble_eq_true rfl) (Nat.le_of_ble_eq_true rfl) d_W_law_47 (fun q30 H nq30 hE hS => ?_)
  refine W.widen (k := 35) (n := 56376) (Nat.le_of_ble_eq_true rfl) (by omega) ?_
  refine lv_astore_n (lv' := [(3, .ref q30), (2, .ref (bm 40)), (1, .ref (bm 0)), (0, .ref sb)]) hx hb d_W_law_49 rfl hl (by decide) rfl (fun ls hl => ?_)
  refine lv_iconst (v := 3) hx hb d_W_law_50 (by decide) ?_
  refine lv_istore (lv' := [(4, .int 3), (3, .ref q30), (2, .ref (bm 40)), (1, .ref (bm 0)), (0, .ref sb)]) hx hb d_W_law_51 hl (by decide) rfl (fun ls hl => ?_)
  have hx0 : Cm (0, 0) = some (.inr (0, fX (fr_ub bm 30 q30) (clN v0 1 50) (clN v1 1 100) (clN v2 0 1000000) 0 0 0 0)) := by rw [fX_c (b := bx) (fun i hi => (fr_ub_ne (by omega)).trans ((gb i (by omega)).trans (fr_ub_ne (by omega))))]; exact gag.at (by decide) f0
  have hCp : Cpl cI cZ cJ cP cO e0 (fr_ub bm 30 q30) (fr_up Cm (0, 30) (.inl (cJ, 1, .inr (.inl (fun _ => 0))))) 0 := ⟨(clN v0 1 50), (clN v1 1 100), (clN v2 0 1000000), 0, 0, 0, 0, 0, 0, 0, e0, 0, 0, 0, (fun _ => 0), (fun _ => 0), (fun _ => 0), (fun _ => 0), (fun _ => 0), (fun _ => 0), (fun _ => 0), (fun _ => 0), (fun _ => 0), (fun _ => 0), (fun _ => 0), (fun _ => 0), (fun _ => 0), (fun _ => 0), (fun _ => 0), (fun _ => 0), (fun _ => 0), (fun _ => 0), (fun _ => 0), (fun _ => 0), (fun _ => 0), aw0, (fun _ => 0), (fun _ => none), (fun _ => none), (fun _ => 0), (fun _ => 0), ⟨hx0, gag.at (by decide) f1, gag.at (by decide) f2, gag.at (by decide) f3, gag.at (by decide) f4, gag.at (by decide) f5, ⟨_, gag.at (by decide) f6⟩, gag.at (by decide) f8, gag.at (by decide) f9⟩, ⟨k0, k6, k7, k8, k9, k10, k12, k13, k14, k15, k16, k18, k19, k20, k21, k22, k24, k25, k26, k28, k29, k30, k31, k32⟩, ⟨gag.at (by decide) f7, Or.inl ⟨rfl, rfl⟩⟩, rfl, ⟨⟨clN_ge (by decide) (by decide), clN_le (by decide) (by decide) (by decide)⟩, ⟨clN_ge (by decide) (by decide), clN_le (by decide) (by decide) (by decide)⟩, clN_le (by decide) (by decide) (by decide), by decide, by decide, by decide, by decide, by decide, fun _ => Nat.zero_le _, fun _ => (show vp_nar .boolean 0 = 0 by decide)⟩, ⟨fun j hj => Or.inl ⟨haw0 j hj, rfl⟩, fun j hj => absurd hj (Nat.not_lt_zero j), fun j _ hj => absurd hj (Nat.not_lt_zero j), fun j _ _ _ hj => absurd hj (Nat.not_lt_zero j)⟩⟩
  refine W.widen (k := (35 + 8 * 0)) (n := (56376 + 2600 * 0)) (Nat.le_of_ble_eq_true rfl) (Nat.le_of_ble_eq_true rfl) ?_
  exact law_loop hx hb hml hown hts hK hX hTT hl9 hSc hbl hbA he0 hL hr hlocks rfl hCp hE hS (lv_sub hl [0, 4, 3, 2, 1] rfl)
