theorem fr_W.agw {D : va_G} {cl : List vw_C} {z : Nat} {b : Nat → Nat} {C C0 : fr_C} {H : Heap} {L : List (Nat × Nat)} (_h : fr_W D cl z b C H) (hag : fr_ag L C C0) : fr_ag L C C0 := hag
theorem fr_W.say {D : va_G} {cl : List vw_C} {z : Nat} {b : Nat → Nat} {C : fr_C} {H : Heap} (P : fr_C → Prop) (_h : fr_W D cl z b C H) (hp : P C) : P C := hp
/-- which of the records at the places a .. a + m - 1 of a list come on the page -/
def kp (q : Nat → Bool) (g : Nat → Nat) (a : Nat) : Nat → List Nat
  | 0 => []
  | m + 1 => kp q g a m ++ (if q (g (a + m)) = true then [g (a + m)] else [])
theorem kp_yes {q : Nat → Bool} {g : Nat → Nat} {a m : Nat} (h : q (g (a + m)) = true) : kp q g a (m + 1) = kp q g a m ++ [g (a + m)] := by
  conv => lhs; unfold kp
  rw [if_pos h]
theorem kp_no {q : Nat → Bool} {g : Nat → Nat} {a m : Nat} (h : q (g (a + m)) = false) : kp q g a (m + 1) = kp q g a m := by
  conv => lhs; unfold kp
  rw [if_neg (by rw [h]; decide), List.append_nil]
/-- a record without an act since s -/
def keepB (ac : Nat → Int32) (s : Int32) (r : Nat) : Bool := decide (ac r ≤ s)
theorem upd_upd (f : Nat → Int32) (k : Nat) (x y : Int32) : upd (upd f k x) k y = upd f k y := by
  funext j
  by_cases h : j = k
  · subst h
    rw [pk_us, pk_us]
  · rw [pk_un h, pk_un h, pk_un h]
def mPgL : List (Nat × Nat) := [(0, 40), (0, 58), (0, 59), (0, 60), (0, 61), (0, 62), (0, 64), (0, 65), (0, 66), (0, 68), (0, 69), (0, 70)]
/-- rows that a page adds: K's records, from w on -/
def rowsOf (K : List Nat) (w : Nat) (dy dl rr rd rg rr' rd' rg' : Nat → Int32) : Prop := (∀ j, j < w → rr' j = rr j ∧ rd' j = rd j ∧ rg' j = rg j) ∧ ∀ j x, K[j]? = some x → rr' (w + j) = nI x ∧ rd' (w + j) = dy x ∧ rg' (w + j) = dl x
theorem rowsOf_0 {w : Nat} {dy dl rr rd rg : Nat → Int32} : rowsOf [] w dy dl rr rd rg rr rd rg := ⟨fun _ _ => ⟨rfl, rfl, rfl⟩, fun j x h => by simp at h⟩
theorem rowsOf_add {K : List Nat} {w A x : Nat} {dy dl rr rd rg rr' rd' rg' : Nat → Int32} {v : Int32} (hA : A = K.length) (hv : v = nI x) (h : rowsOf K w dy dl rr rd rg rr' rd' rg') : rowsOf (K ++ [x]) w dy dl rr rd rg (upd rr' (w + A) v) (upd rd' (w + A) (dy x)) (upd rg' (w + A) (dl x)) := by
  subst hv
  refine ⟨fun j hj => ?_, fun j y hy => ?_⟩
  · rw [pk_un (by omega), pk_un (by omega), pk_un (by omega)]
    exact h.1 j hj
  · rcases Nat.lt_trichotomy j A with q | q | q
    · rw [List.getElem?_append_left (by omega)] at hy
      rw [pk_un (by omega), pk_un (by omega), pk_un (by omega)]
      exact h.2 j y hy
    · subst q
      rw [hA, List.getElem?_append_right (Nat.le_refl _), Nat.sub_self] at hy
      have : x = y := by simpa using hy
      subst this
      exact ⟨pk_us, pk_us, pk_us⟩
    · have := (List.getElem?_eq_some_iff.mp hy).1
      rw [List.length_append] at this
      simp at this
      omega
/-- what the reference's makePage does: page ps, of list L from F on, m places, K of them kept; tm: there is more behind it -/
def mPage (C C' : fr_C) (cI cZ : ClassId) (b : Nat → Nat) (th : Int32) (pg gr lf an n lc ps rw tk po : Nat) (pl pf pr pa pt rr rd rg tp md le dy dl : Nat → Int32) (L F : Nat) (t : Int32) (m : Nat) (K : List Nat) (tm : Prop) (rr' rd' rg' : Nat → Int32) : Prop :=
  C' (0, 58) = some (.inl (cI, 4600, .inl (upd pl ps (nI L)))) ∧ C' (0, 59) = some (.inl (cI, 4600, .inl (upd pf ps (nI F)))) ∧ C' (0, 60) = some (.inl (cI, 4600, .inl (upd pr ps (nI K.length)))) ∧ C' (0, 61) = some (.inl (cI, 4600, .inl (upd pa ps (nI rw)))) ∧ C' (0, 64) = some (.inl (cI, 4500, .inl rr')) ∧ C' (0, 65) = some (.inl (cI, 4500, .inl rd')) ∧ C' (0, 66) = some (.inl (cZ, 4500, .inl rg')) ∧ rowsOf K rw dy dl rr rd rg rr' rd' rg' ∧ K.length ≤ m ∧ fr_ag mPgL C' C ∧
  ((tm ∧ C' (0, 40) = some (.inr (5, fM b th pg gr lf an n lc (ps + 1) (rw + K.length) (tk + 1) (po + (m - K.length)))) ∧ C' (0, 62) = some (.inl (cI, 4600, .inl (upd pt ps (nI tk)))) ∧ C' (0, 68) = some (.inl (cI, 4600, .inl (upd tp tk (nI ps)))) ∧ C' (0, 69) = some (.inl (cI, 4600, .inl (upd md tk t))) ∧ C' (0, 70) = some (.inl (cI, 4600, .inl (upd le tk (-1))))) ∨
   (¬ tm ∧ C' (0, 40) = some (.inr (5, fM b th pg gr lf an n lc (ps + 1) (rw + K.length) tk (po + (m - K.length)))) ∧ C' (0, 62) = some (.inl (cI, 4600, .inl (upd pt ps (-1)))) ∧ C' (0, 68) = some (.inl (cI, 4600, .inl tp)) ∧ C' (0, 69) = some (.inl (cI, 4600, .inl md)) ∧ C' (0, 70) = some (.inl (cI, 4600, .inl le))))
set_option maxHeartbeats 4000000 in
set_option maxRecDepth 100000 in
theorem c_M_makePage (l : Launch) {D : va_G} {z : Nat} {b : Nat → Nat} {C : fr_C} {H9 : Heap} (h9 : fr_W D hCl z b C H9) {cI cZ cJ cP cO : ClassId} {th : Int32} {pg gr lf an n lc ps rw tk po : Nat} {dy : Nat → Int32} {dl : Nat → Int32} {ac : Nat → Int32} {mn : Nat → Int32} {si : Nat → Int32} {li : Nat → Int32} {pl : Nat → Int32} {pf : Nat → Int32} {pr : Nat → Int32} {pa : Nat → Int32} {pt : Nat → Int32} {rr : Nat → Int32} {rd : Nat → Int32} {rg : Nat → Int32} {tp : Nat → Int32} {md : Nat → Int32} {le : Nat → Int32} (m0 : C (0, 40) = some (.inr (5, fM b th pg gr lf an n lc ps rw tk po))) (m7 : C (0, 47) = some (.inl (cI, 150, .inl dy))) (m8 : C (0, 48) = some (.inl (cZ, 150, .inl dl))) (m9 : C (0, 49) = some (.inl (cI, 150, .inl ac))) (m12 : C (0, 52) = some (.inl (cI, 30, .inl mn))) (m13 : C (0, 53) = some (.inl (cI, 30, .inl si))) (m16 : C (0, 56) = some (.inl (cI, 4500, .inl li))) (m18 : C (0, 58) = some (.inl (cI, 4600, .inl pl))) (m19 : C (0, 59) = some (.inl (cI, 4600, .inl pf))) (m20 : C (0, 60) = some (.inl (cI, 4600, .inl pr))) (m21 : C (0, 61) = some (.inl (cI, 4600, .inl pa))) (m22 : C (0, 62) = some (.inl (cI, 4600, .inl pt))) (m24 : C (0, 64) = some (.inl (cI, 4500, .inl rr))) (m25 : C (0, 65) = some (.inl (cI, 4500, .inl rd))) (m26 : C (0, 66) = some (.inl (cZ, 4500, .inl rg))) (m28 : C (0, 68) = some (.inl (cI, 4600, .inl tp))) (m29 : C (0, 69) = some (.inl (cI, 4600, .inl md))) (m30 : C (0, 70) = some (.inl (cI, 4600, .inl le))) (L F mL mq : Nat) (t : Int32) (g : Nat → Nat) (hL : L < 30) (hps : ps < 4600) (htk : tk < 4600) (hpg : pg ≤ 50) (hmL : mn L = nI mL) (hmL2 : mL ≤ 150) (hF : F ≤ mL) (hm : F + mq = if F + pg < mL then F + pg else mL) (hrw : rw + mq ≤ 4500) (hdl : ∀ j, vp_nar .boolean (dl j) = dl j) (hgg : ∀ k, k < mL → li (150 * L + k) = nI (g k) ∧ g k < 150) : Met l y_M_makePage w_M_makePage ({ frames := 0, cells := 0, slots := 0, locals := 0 }) (va_Pc [.ref (b 40), .int (nI L), .int (nI F), .int t] (fr_G D hCl (hTy cI cZ cJ cP cO) z b C)) (va_Qi (fun (r : Int32) (u : fr_C × (Nat → Int32) × (Nat → Int32) × (Nat → Int32)) => r = nI ps ∧ mPage C u.1 cI cZ b th pg gr lf an n lc ps rw tk po pl pf pr pa pt rr rd rg tp md le dy dl L F t mq (kp (keepB ac (si L)) g F mq) (F + mq < mL) u.2.1 u.2.2.1 u.2.2.2) (fun u t => fr_G D hCl (hTy cI cZ cJ cP cO) z ((fun _ => b) u) ((fun u => u.1) u) t) (fr_A z)) 0 0 (fr_A z) := by
  refine Met.ofW (cc := b_M_makePage) (maxL := 8) (ret := (some .int)) (by decide) rfl ?_
  intro p e s m args below meth c s₁ B hml hv
  obtain ⟨rfl, hE, hK⟩ := hv
  have hx := B.exec
  have hb := B.bytes
  have hr := B.returns
  have hts := atoms_spec (ws := w_M_makePage) B.pre
  have hT : ∀ w ∈ hw_tbl, w.before _ s = true := fun w h => hts w (List.mem_cons_of_mem _ h)
  have hown : s.vm.findClass "HarvestStepsModel" = some m.cls := findClass_of_methodNamed B.named
  have hlocks := B.notSynchronized
  have hS : va_S (fr_A z) s.heap s.heap [] := va_S.rf
  have hl := lv_entry ([.ref (b 40), .int (nI L), .int (nI F), .int t]) (n := 8) (Nat.le_of_ble_eq_true rfl)
  rw [lg_entry_eq]
  generalize (lg_sl ([.ref (b 40), .int (nI L), .int (nI F), .int t]) ++ List.replicate (8 - (lg_sl ([.ref (b 40), .int (nI L), .int (nI F), .int t])).length) Slot.unset).toArray = ls at hl ⊢
  have hl : lv_has ls 8 [(0, .ref (b 40)), (1, .int (nI L)), (2, .int (nI F)), (3, .int t)] := hl
  refine lv_aload_n hx hb d_M_makePage_0 rfl (lv_at hl 0 rfl) ?_
  refine fr_get (ci := 5) (Cn := hR_5) (T := hF_5) (N := 34) hx hb hT hi_5 hown hK hE (0, 40) rfl m0 rfl 17 (by decide) (hT _ kw_491) (fun _ h9 => h9) rfl d_M_makePage_1 ?_
  refine lv_istore (lv' := [(4, .int (nI ps)), (0, .ref (b 40)), (1, .int (nI L)), (2, .int (nI F)), (3, .int t)]) hx hb d_M_makePage_4 hl (by decide) rfl (fun ls hl => ?_)
  refine lv_aload_n hx hb d_M_makePage_6 rfl (lv_at hl 1 rfl) ?_
  refine fr_get (ci := 5) (Cn := hR_5) (T := hF_5) (N := 34) hx hb hT hi_5 hown hK hE (0, 40) rfl m0 rfl 18 (by decide) (hT _ kw_492) (fun _ h9 => h9) rfl d_M_makePage_7 ?_
  refine lv_iload hx hb d_M_makePage_10 (lv_at hl 0 rfl) ?_
  refine lv_iload_n hx hb d_M_makePage_12 rfl (lv_at hl 2 rfl) ?_
  refine fr_iast hx hb hK hE hS (0, 58) 0 rfl m18 rfl ps (rfl) (by omega) (by decide) d_M_makePage_13 (fun H locs hE hS => ?_)
  refine lv_aload_n hx hb d_M_makePage_14 rfl (lv_at hl 1 rfl) ?_
  refine fr_get (ci := 5) (Cn := hR_5) (T := hF_5) (N := 34) hx hb hT hi_5 hown hK hE (0, 40) rfl m0 rfl 19 (by decide) (hT _ kw_493) (fun _ h9 => h9) rfl d_M_makePage_15 ?_
  refine lv_iload hx hb d_M_makePage_18 (lv_at hl 0 rfl) ?_
  refine lv_iload_n hx hb d_M_makePage_20 rfl (lv_at hl 3 rfl) ?_
  refine fr_iast hx hb hK hE hS (0, 59) 0 rfl m19 rfl ps (rfl) (by omega) (by decide) d_M_makePage_21 (fun H locs hE hS => ?_)
  refine lv_aload_n hx hb d_M_makePage_22 rfl (lv_at hl 1 rfl) ?_
  refine fr_get (ci := 5) (Cn := hR_5) (T := hF_5) (N := 34) hx hb hT hi_5 hown hK hE (0, 40) rfl m0 rfl 21 (by decide) (hT _ kw_495) (fun _ h9 => h9) rfl d_M_makePage_23 ?_
  refine lv_iload hx hb d_M_makePage_26 (lv_at hl 0 rfl) ?_
  refine lv_aload_n hx hb d_M_makePage_28 rfl (lv_at hl 1 rfl) ?_
  refine fr_get (ci := 5) (Cn := hR_5) (T := hF_5) (N := 34) hx hb hT hi_5 hown hK hE (0, 40) rfl m0 rfl 23 (by decide) (hT _ kw_497) (fun _ h9 => h9) rfl d_M_makePage_29 ?_
  refine fr_iast hx hb hK hE hS (0, 61) 0 rfl m21 rfl ps (rfl) (by omega) (by decide) d_M_makePage_32 (fun H locs hE hS => ?_)
  refine lv_iload_n hx hb d_M_makePage_33 rfl (lv_at hl 3 rfl) ?_
  refine lv_aload_n hx hb d_M_makePage_34 rfl (lv_at hl 1 rfl) ?_
  refine fr_get (ci := 5) (Cn := hR_5) (T := hF_5) (N := 34) hx hb hT hi_5 hown hK hE (0, 40) rfl m0 rfl 1 (by decide) (hT _ kw_475) (fun _ h9 => h9) rfl d_M_makePage_35 ?_
  refine lv_iadd hx hb d_M_makePage_38 ?_
  refine lv_topi (fun y_1 ey_1 => ?_)
  obtain rfl : y_1 = nI (F + pg) := ey_1.trans (nI_add F pg)
  refine lv_aload_n hx hb d_M_makePage_39 rfl (lv_at hl 1 rfl) ?_
  refine fr_get (ci := 5) (Cn := hR_5) (T := hF_5) (N := 34) hx hb hT hi_5 hown hK hE (0, 40) rfl m0 rfl 12 (by decide) (hT _ kw_486) (fun _ h9 => h9) rfl d_M_makePage_40 ?_
  refine lv_iload_n hx hb d_M_makePage_43 rfl (lv_at hl 2 rfl) ?_
  refine fr_iald hx hb hK hE (0, 52) 0 rfl m12 rfl L (rfl) (by omega) (by decide) d_M_makePage_44 ?_
  refine lv_topi (fun y_2 ey_2 => ?_)
  obtain rfl : y_2 = nI mL := ey_2.trans (hmL)
  refine lv_icmp_ge (tgt := 57) hx hb d_M_makePage_45 (by decide) (fun c_3 => ?_) (fun c_3 => ?_)
  · skip
    have hc : ¬ F + pg < mL := fun y => absurd c_3 (nI_ge y (by omega))
    rw [if_neg hc] at hm
    refine lv_aload_n hx hb d_M_makePage_57 rfl (lv_at hl 1 rfl) ?_
    refine fr_get (ci := 5) (Cn := hR_5) (T := hF_5) (N := 34) hx hb hT hi_5 hown hK hE (0, 40) rfl m0 rfl 12 (by decide) (hT _ kw_486) (fun _ h9 => h9) rfl d_M_makePage_58 ?_
    refine lv_iload_n hx hb d_M_makePage_61 rfl (lv_at hl 2 rfl) ?_
    refine fr_iald hx hb hK hE (0, 52) 0 rfl m12 rfl L (rfl) (by omega) (by decide) d_M_makePage_62 ?_
    refine lv_topi (fun y_4 ey_4 => ?_)
    obtain rfl : y_4 = nI mL := ey_4.trans (hmL)
    refine lv_topi (fun y_5 ey_5 => ?_)
    obtain rfl : y_5 = nI (F + mq) := ey_5.trans (by rw [hm])
    refine lv_istore (lv' := [(5, .int (nI (F + mq))), (4, .int (nI ps)), (0, .ref (b 40)), (1, .int (nI L)), (2, .int (nI F)), (3, .int t)]) hx hb d_M_makePage_63 hl (by decide) rfl (fun ls hl => ?_)
    refine lv_iload_n hx hb d_M_makePage_65 rfl (lv_at hl 4 rfl) ?_
    refine lv_istore (lv' := [(6, .int (nI F)), (5, .int (nI (F + mq))), (4, .int (nI ps)), (0, .ref (b 40)), (1, .int (nI L)), (2, .int (nI F)), (3, .int t)]) hx hb d_M_makePage_66 hl (by decide) rfl (fun ls hl => ?_)
    refine W.widen (k := 0) (n := 0) (Nat.le_of_ble_eq_true rfl) (Nat.le_of_ble_eq_true rfl) ?_
    have ai0 : (mq + 1) + 0 = mq + 1 := by omega
    have ai1 : 0 ≤ mq := Nat.zero_le mq
    have ai2 : ([] : List Nat) = kp (keepB ac (si L)) g F 0 := rfl
    have ai3 : 0 = ([] : List Nat).length := rfl
    have ai4 : 0 + 0 = 0 := rfl
    have ai5 : (fr_up (fr_up (fr_up C (0, 58) (.inl (cI, 4600, .inl (upd pl ps (nI L))))) (0, 59) (.inl (cI, 4600, .inl (upd pf ps (nI F))))) (0, 61) (.inl (cI, 4600, .inl (upd pa ps (nI rw))))) (0, 40) = some (.inr (5, fM b th pg gr lf an n lc ps (rw + 0) tk (po + 0))) := m0
    have ai6 : (fr_up (fr_up (fr_up C (0, 58) (.inl (cI, 4600, .inl (upd pl ps (nI L))))) (0, 59) (.inl (cI, 4600, .inl (upd pf ps (nI F))))) (0, 61) (.inl (cI, 4600, .inl (upd pa ps (nI rw))))) (0, 64) = some (.inl (cI, 4500, .inl rr)) := m24
    have ai7 : (fr_up (fr_up (fr_up C (0, 58) (.inl (cI, 4600, .inl (upd pl ps (nI L))))) (0, 59) (.inl (cI, 4600, .inl (upd pf ps (nI F))))) (0, 61) (.inl (cI, 4600, .inl (upd pa ps (nI rw))))) (0, 65) = some (.inl (cI, 4500, .inl rd)) := m25
    have ai8 : (fr_up (fr_up (fr_up C (0, 58) (.inl (cI, 4600, .inl (upd pl ps (nI L))))) (0, 59) (.inl (cI, 4600, .inl (upd pf ps (nI F))))) (0, 61) (.inl (cI, 4600, .inl (upd pa ps (nI rw))))) (0, 66) = some (.inl (cZ, 4500, .inl rg)) := m26
    have ai9 : rowsOf ([] : List Nat) rw dy dl rr rd rg rr rd rg := rowsOf_0
    have aiA : fr_ag [(0, 40), (0, 64), (0, 65), (0, 66)] (fr_up (fr_up (fr_up C (0, 58) (.inl (cI, 4600, .inl (upd pl ps (nI L))))) (0, 59) (.inl (cI, 4600, .inl (upd pf ps (nI F))))) (0, 61) (.inl (cI, 4600, .inl (upd pa ps (nI rw))))) (fr_up (fr_up (fr_up C (0, 58) (.inl (cI, 4600, .inl (upd pl ps (nI L))))) (0, 59) (.inl (cI, 4600, .inl (upd pf ps (nI F))))) (0, 61) (.inl (cI, 4600, .inl (upd pa ps (nI rw))))) := fr_ag.rf
    refine fr_loop (σ := Nat × Nat × Nat × List Nat × fr_C × (Nat → Int32) × (Nat → Int32) × (Nat → Int32)) (fun n9 x H locs ls => (n9 + x.1 = mq + 1) ∧ (x.1 ≤ mq) ∧ (x.2.2.2.1 = kp (keepB ac (si L)) g F x.1) ∧ (x.2.1 = x.2.2.2.1.length) ∧ (x.2.1 + x.2.2.1 = x.1) ∧ (x.2.2.2.2.1 (0, 40) = some (.inr (5, fM b th pg gr lf an n lc ps (rw + x.2.1) tk (po + x.2.2.1)))) ∧ (x.2.2.2.2.1 (0, 64) = some (.inl (cI, 4500, .inl x.2.2.2.2.2.1))) ∧ (x.2.2.2.2.1 (0, 65) = some (.inl (cI, 4500, .inl x.2.2.2.2.2.2.1))) ∧ (x.2.2.2.2.1 (0, 66) = some (.inl (cZ, 4500, .inl x.2.2.2.2.2.2.2))) ∧ (rowsOf x.2.2.2.1 rw dy dl rr rd rg x.2.2.2.2.2.1 x.2.2.2.2.2.2.1 x.2.2.2.2.2.2.2) ∧ (fr_ag [(0, 40), (0, 64), (0, 65), (0, 66)] x.2.2.2.2.1 (fr_up (fr_up (fr_up C (0, 58) (.inl (cI, 4600, .inl (upd pl ps (nI L))))) (0, 59) (.inl (cI, 4600, .inl (upd pf ps (nI F))))) (0, 61) (.inl (cI, 4600, .inl (upd pa ps (nI rw)))))) ∧ fr_W D hCl z b (x.2.2.2.2.1) H ∧ va_S (fr_A z) s.heap H locs ∧ lv_has ls 8 [(4, .int (nI ps)), (5, .int (nI (F + mq))), (6, .int (nI (F + x.1))), (0, .ref (b 40)), (1, .int (nI L)), (2, .int (nI F)), (3, .int t)]) (fun x H locs ls h => by obtain ⟨h1, h2, -⟩ := h; omega) (fun n9 x H locs ls hI ih => ?_) (mq + 1) (0, 0, 0, ([] : List Nat), (fr_up (fr_up (fr_up C (0, 58) (.inl (cI, 4600, .inl (upd pl ps (nI L))))) (0, 59) (.inl (cI, 4600, .inl (upd pf ps (nI F))))) (0, 61) (.inl (cI, 4600, .inl (upd pa ps (nI rw))))), rr, rd, rg) _ _ _ ⟨ai0, ai1, ai2, ai3, ai4, ai5, ai6, ai7, ai8, ai9, aiA, hE, hS, lv_sub hl [2, 1, 0, 3, 4, 5, 6] rfl⟩
    obtain ⟨m1, A, B, K1, C1, rr1, rd1, rg1⟩ := x
    obtain ⟨i0, i1, i2, i3, i4, i5, i6, i7, i8, i9, iA, hE, hS, hl⟩ := hI
    replace i0 : (n9 + 1) + m1 = mq + 1 := i0
    replace i1 : m1 ≤ mq := i1
    replace i2 : K1 = kp (keepB ac (si L)) g F m1 := i2
    replace i3 : A = K1.length := i3
    replace i4 : A + B = m1 := i4
    replace i5 : C1 (0, 40) = some (.inr (5, fM b th pg gr lf an n lc ps (rw + A) tk (po + B))) := i5
    replace i6 : C1 (0, 64) = some (.inl (cI, 4500, .inl rr1)) := i6
    replace i7 : C1 (0, 65) = some (.inl (cI, 4500, .inl rd1)) := i7
    replace i8 : C1 (0, 66) = some (.inl (cZ, 4500, .inl rg1)) := i8
    replace i9 : rowsOf K1 rw dy dl rr rd rg rr1 rd1 rg1 := i9
    replace iA : fr_ag [(0, 40), (0, 64), (0, 65), (0, 66)] C1 (fr_up (fr_up (fr_up C (0, 58) (.inl (cI, 4600, .inl (upd pl ps (nI L))))) (0, 59) (.inl (cI, 4600, .inl (upd pf ps (nI F))))) (0, 61) (.inl (cI, 4600, .inl (upd pa ps (nI rw))))) := iA
    replace hE : fr_W D hCl z b (C1) H := hE
    replace hl : lv_has ls 8 [(4, .int (nI ps)), (5, .int (nI (F + mq))), (6, .int (nI (F + m1))), (0, .ref (b 40)), (1, .int (nI L)), (2, .int (nI F)), (3, .int t)] := hl
    have k47 : C1 (0, 47) = some (.inl (cI, 150, .inl dy)) := iA.at (by decide) m7
    have k48 : C1 (0, 48) = some (.inl (cZ, 150, .inl dl)) := iA.at (by decide) m8
    have k49 : C1 (0, 49) = some (.inl (cI, 150, .inl ac)) := iA.at (by decide) m9
    have k52 : C1 (0, 52) = some (.inl (cI, 30, .inl mn)) := iA.at (by decide) m12
    have k53 : C1 (0, 53) = some (.inl (cI, 30, .inl si)) := iA.at (by decide) m13
    have k56 : C1 (0, 56) = some (.inl (cI, 4500, .inl li)) := iA.at (by decide) m16
    have k58 : C1 (0, 58) = some (.inl (cI, 4600, .inl (upd pl ps (nI L)))) := iA.at (by decide) rfl
    have k59 : C1 (0, 59) = some (.inl (cI, 4600, .inl (upd pf ps (nI F)))) := iA.at (by decide) rfl
    have k61 : C1 (0, 61) = some (.inl (cI, 4600, .inl (upd pa ps (nI rw)))) := iA.at (by decide) rfl
    have k60 : C1 (0, 60) = some (.inl (cI, 4600, .inl pr)) := iA.at (by decide) m20
    have k62 : C1 (0, 62) = some (.inl (cI, 4600, .inl pt)) := iA.at (by decide) m22
    have k68 : C1 (0, 68) = some (.inl (cI, 4600, .inl tp)) := iA.at (by decide) m28
    have k69 : C1 (0, 69) = some (.inl (cI, 4600, .inl md)) := iA.at (by decide) m29
    have k70 : C1 (0, 70) = some (.inl (cI, 4600, .inl le)) := iA.at (by decide) m30
    refine lv_iload hx hb d_M_makePage_68 (lv_at hl 2 rfl) ?_
    refine lv_iload hx hb d_M_makePage_70 (lv_at hl 1 rfl) ?_
    refine lv_icmp_ge (tgt := 178) hx hb d_M_makePage_72 (by decide) (fun c_6 => ?_) (fun c_6 => ?_)
    · skip
      have hmm : m1 = mq := by rcases Nat.lt_or_ge m1 mq with y | y; exact absurd c_6 (nI_ge (by omega) (by omega)); omega
      subst hmm
      refine lv_aload_n hx hb d_M_makePage_178 rfl (lv_at hl 3 rfl) ?_
      refine fr_get (ci := 5) (Cn := hR_5) (T := hF_5) (N := 34) hx hb hT hi_5 hown hK hE (0, 40) rfl i5 rfl 20 (by decide) (hT _ kw_494) (fun _ h9 => h9) rfl d_M_makePage_179 ?_
      refine lv_iload hx hb d_M_makePage_182 (lv_at hl 0 rfl) ?_
      refine lv_aload_n hx hb d_M_makePage_184 rfl (lv_at hl 3 rfl) ?_
      refine fr_get (ci := 5) (Cn := hR_5) (T := hF_5) (N := 34) hx hb hT hi_5 hown hK hE (0, 40) rfl i5 rfl 23 (by decide) (hT _ kw_497) (fun _ h9 => h9) rfl d_M_makePage_185 ?_
      refine lv_aload_n hx hb d_M_makePage_188 rfl (lv_at hl 3 rfl) ?_
      refine fr_get (ci := 5) (Cn := hR_5) (T := hF_5) (N := 34) hx hb hT hi_5 hown hK hE (0, 40) rfl i5 rfl 21 (by decide) (hT _ kw_495) (fun _ h9 => h9) rfl d_M_makePage_189 ?_
      refine lv_iload hx hb d_M_makePage_192 (lv_at hl 0 rfl) ?_
      refine fr_iald hx hb hK hE (0, 61) 0 rfl k61 rfl ps (rfl) (by omega) (by decide) d_M_makePage_194 ?_
      refine lv_isub hx hb d_M_makePage_195 ?_
      refine lv_topi (fun y_7 ey_7 => ?_)
      obtain rfl : y_7 = nI A := ey_7.trans (by rw [pk_us, pk_sub (by omega)]; exact congrArg nI (by omega))
      refine fr_iast hx hb hK hE hS (0, 60) 0 rfl k60 rfl ps (rfl) (by omega) (by decide) d_M_makePage_196 (fun H locs hE hS => ?_)
      refine lv_aload_n hx hb d_M_makePage_197 rfl (lv_at hl 3 rfl) ?_
      refine fr_get (ci := 5) (Cn := hR_5) (T := hF_5) (N := 34) hx hb hT hi_5 hown hK hE (0, 40) rfl i5 rfl 22 (by decide) (hT _ kw_496) (fun _ h9 => h9) rfl d_M_makePage_198 ?_
      refine lv_iload hx hb d_M_makePage_201 (lv_at hl 0 rfl) ?_
      refine lv_iconst (v := (-1)) hx hb d_M_makePage_203 (by decide) ?_
      refine fr_iast hx hb hK hE hS (0, 62) 0 rfl k62 rfl ps (rfl) (by omega) (by decide) d_M_makePage_204 (fun H locs hE hS => ?_)
      refine lv_iload hx hb d_M_makePage_205 (lv_at hl 1 rfl) ?_
      refine lv_aload_n hx hb d_M_makePage_207 rfl (lv_at hl 3 rfl) ?_
      refine fr_get (ci := 5) (Cn := hR_5) (T := hF_5) (N := 34) hx hb hT hi_5 hown hK hE (0, 40) rfl i5 rfl 12 (by decide) (hT _ kw_486) (fun _ h9 => h9) rfl d_M_makePage_208 ?_
      refine lv_iload_n hx hb d_M_makePage_211 rfl (lv_at hl 4 rfl) ?_
      refine fr_iald hx hb hK hE (0, 52) 0 rfl k52 rfl L (rfl) (by omega) (by decide) d_M_makePage_212 ?_
      refine lv_topi (fun y_8 ey_8 => ?_)
      obtain rfl : y_8 = nI mL := ey_8.trans (hmL)
      refine lv_icmp_ge (tgt := 268) hx hb d_M_makePage_213 (by decide) (fun c_9 => ?_) (fun c_9 => ?_)
      · skip
        refine lv_aload_n hx hb d_M_makePage_268 rfl (lv_at hl 3 rfl) ?_
        refine lv_dup hx hb d_M_makePage_269 rfl ?_
        refine fr_get (ci := 5) (Cn := hR_5) (T := hF_5) (N := 34) hx hb hT hi_5 hown hK hE (0, 40) rfl i5 rfl 17 (by decide) (hT _ kw_491) (fun _ h9 => h9) rfl d_M_makePage_270 ?_
        refine lv_iconst (v := 1) hx hb d_M_makePage_273 (by decide) ?_
        refine lv_iadd hx hb d_M_makePage_274 ?_
        refine lv_topi (fun y_10 ey_10 => ?_)
        obtain rfl : y_10 = nI (ps + 1) := ey_10.trans (nI_1 ps)
        refine fr_put (ci := 5) (v := .int (nI (ps + 1))) (ty := .int) (Cn := hR_5) (T := hF_5) (N := 34) hx hb hT hi_5 hy_5 ho_5 hn_5 hown hK hE hS (0, 40) rfl i5 rfl 17 (by decide) (hT _ kw_491) (fun _ h9 => h9) rfl (by decide +kernel) rfl rfl (Nat.le_of_ble_eq_true rfl) d_M_makePage_275 (fun H locs hE hS => ?_)
        have hag := hE.agw (L := mPgL) (C0 := C) (((((fr_ag.wider iA (L' := mPgL) (by decide)).tr (((fr_ag.rf.up (by decide)).up (by decide)).up (by decide))).up (by decide)).up (by decide)).up (by decide))
        have htm : ¬ F + m1 < mL := fun y => absurd c_9 (nI_ge y (by omega))
        refine lv_iload hx hb d_M_makePage_278 (lv_at hl 0 rfl) ?_
        refine W.widen (k := 0) (n := 0) (Nat.le_of_ble_eq_true rfl) (Nat.le_of_ble_eq_true rfl) ?_
        have hpost := hE.say (fun X => mPage C X cI cZ b th pg gr lf an n lc ps rw tk po pl pf pr pa pt rr rd rg tp md le dy dl L F t m1 (kp (keepB ac (si L)) g F m1) (F + m1 < mL) rr1 rd1 rg1) ⟨k58, k59, (by rw [← i2, ← i3]; rfl), k61, i6, i7, i8, (by rw [← i2]; exact i9), (by rw [← i2, ← i3]; omega), hag, Or.inr ⟨htm, (by rw [← i2, ← i3, show m1 - A = B by omega]; rfl), rfl, k68, k69, k70⟩⟩
        exact W.iret (v := nI ps) hx hb hr (fun t9 ht9 hW9 => ⟨⟨nI ps, (_, rr1, rd1, rg1), rfl, ⟨rfl, hpost⟩, ⟨by rw [ht9]; exact hE, va_K.moved hW9.alike hK⟩⟩, hS.F ht9⟩) hS.2.2 d_M_makePage_280
      · skip
        refine lv_aload_n hx hb d_M_makePage_216 rfl (lv_at hl 3 rfl) ?_
        refine fr_get (ci := 5) (Cn := hR_5) (T := hF_5) (N := 34) hx hb hT hi_5 hown hK hE (0, 40) rfl i5 rfl 22 (by decide) (hT _ kw_496) (fun _ h9 => h9) rfl d_M_makePage_217 ?_
        refine lv_iload hx hb d_M_makePage_220 (lv_at hl 0 rfl) ?_
        refine lv_aload_n hx hb d_M_makePage_222 rfl (lv_at hl 3 rfl) ?_
        refine fr_get (ci := 5) (Cn := hR_5) (T := hF_5) (N := 34) hx hb hT hi_5 hown hK hE (0, 40) rfl i5 rfl 27 (by decide) (hT _ kw_501) (fun _ h9 => h9) rfl d_M_makePage_223 ?_
        refine fr_iast hx hb hK hE hS (0, 62) 0 rfl rfl rfl ps (rfl) (by omega) (by decide) d_M_makePage_226 (fun H locs hE hS => ?_)
        refine lv_aload_n hx hb d_M_makePage_227 rfl (lv_at hl 3 rfl) ?_
        refine fr_get (ci := 5) (Cn := hR_5) (T := hF_5) (N := 34) hx hb hT hi_5 hown hK hE (0, 40) rfl i5 rfl 28 (by decide) (hT _ kw_502) (fun _ h9 => h9) rfl d_M_makePage_228 ?_
        refine lv_aload_n hx hb d_M_makePage_231 rfl (lv_at hl 3 rfl) ?_
        refine fr_get (ci := 5) (Cn := hR_5) (T := hF_5) (N := 34) hx hb hT hi_5 hown hK hE (0, 40) rfl i5 rfl 27 (by decide) (hT _ kw_501) (fun _ h9 => h9) rfl d_M_makePage_232 ?_
        refine lv_iload hx hb d_M_makePage_235 (lv_at hl 0 rfl) ?_
        refine fr_iast hx hb hK hE hS (0, 68) 0 rfl k68 rfl tk (rfl) (by omega) (by decide) d_M_makePage_237 (fun H locs hE hS => ?_)
        refine lv_aload_n hx hb d_M_makePage_238 rfl (lv_at hl 3 rfl) ?_
        refine fr_get (ci := 5) (Cn := hR_5) (T := hF_5) (N := 34) hx hb hT hi_5 hown hK hE (0, 40) rfl i5 rfl 29 (by decide) (hT _ kw_503) (fun _ h9 => h9) rfl d_M_makePage_239 ?_
        refine lv_aload_n hx hb d_M_makePage_242 rfl (lv_at hl 3 rfl) ?_
        refine fr_get (ci := 5) (Cn := hR_5) (T := hF_5) (N := 34) hx hb hT hi_5 hown hK hE (0, 40) rfl i5 rfl 27 (by decide) (hT _ kw_501) (fun _ h9 => h9) rfl d_M_makePage_243 ?_
        refine lv_iload_n hx hb d_M_makePage_246 rfl (lv_at hl 6 rfl) ?_
        refine fr_iast hx hb hK hE hS (0, 69) 0 rfl k69 rfl tk (rfl) (by omega) (by decide) d_M_makePage_247 (fun H locs hE hS => ?_)
        refine lv_aload_n hx hb d_M_makePage_248 rfl (lv_at hl 3 rfl) ?_
        refine fr_get (ci := 5) (Cn := hR_5) (T := hF_5) (N := 34) hx hb hT hi_5 hown hK hE (0, 40) rfl i5 rfl 30 (by decide) (hT _ kw_504) (fun _ h9 => h9) rfl d_M_makePage_249 ?_
        refine lv_aload_n hx hb d_M_makePage_252 rfl (lv_at hl 3 rfl) ?_
        refine fr_get (ci := 5) (Cn := hR_5) (T := hF_5) (N := 34) hx hb hT hi_5 hown hK hE (0, 40) rfl i5 rfl 27 (by decide) (hT _ kw_501) (fun _ h9 => h9) rfl d_M_makePage_253 ?_
        refine lv_iconst (v := (-1)) hx hb d_M_makePage_256 (by decide) ?_
        refine fr_iast hx hb hK hE hS (0, 70) 0 rfl k70 rfl tk (rfl) (by omega) (by decide) d_M_makePage_257 (fun H locs hE hS => ?_)
        refine lv_aload_n hx hb d_M_makePage_258 rfl (lv_at hl 3 rfl) ?_
        refine lv_dup hx hb d_M_makePage_259 rfl ?_
        refine fr_get (ci := 5) (Cn := hR_5) (T := hF_5) (N := 34) hx hb hT hi_5 hown hK hE (0, 40) rfl i5 rfl 27 (by decide) (hT _ kw_501) (fun _ h9 => h9) rfl d_M_makePage_260 ?_
        refine lv_iconst (v := 1) hx hb d_M_makePage_263 (by decide) ?_
        refine lv_iadd hx hb d_M_makePage_264 ?_
        refine lv_topi (fun y_11 ey_11 => ?_)
        obtain rfl : y_11 = nI (tk + 1) := ey_11.trans (nI_1 tk)
        refine fr_put (ci := 5) (v := .int (nI (tk + 1))) (ty := .int) (Cn := hR_5) (T := hF_5) (N := 34) hx hb hT hi_5 hy_5 ho_5 hn_5 hown hK hE hS (0, 40) rfl i5 rfl 27 (by decide) (hT _ kw_501) (fun _ h9 => h9) rfl (by decide +kernel) rfl rfl (Nat.le_of_ble_eq_true rfl) d_M_makePage_265 (fun H locs hE hS => ?_)
        refine lv_aload_n hx hb d_M_makePage_268 rfl (lv_at hl 3 rfl) ?_
        refine lv_dup hx hb d_M_makePage_269 rfl ?_
        refine fr_get (ci := 5) (Cn := hR_5) (T := hF_5) (N := 34) hx hb hT hi_5 hown hK hE (0, 40) rfl rfl rfl 17 (by decide) (hT _ kw_491) (fun _ h9 => h9) rfl d_M_makePage_270 ?_
        refine lv_iconst (v := 1) hx hb d_M_makePage_273 (by decide) ?_
        refine lv_iadd hx hb d_M_makePage_274 ?_
        refine lv_topi (fun y_12 ey_12 => ?_)
        obtain rfl : y_12 = nI (ps + 1) := ey_12.trans (nI_1 ps)
        refine fr_put (ci := 5) (v := .int (nI (ps + 1))) (ty := .int) (Cn := hR_5) (T := hF_5) (N := 34) hx hb hT hi_5 hy_5 ho_5 hn_5 hown hK hE hS (0, 40) rfl rfl rfl 17 (by decide) (hT _ kw_491) (fun _ h9 => h9) rfl (by decide +kernel) rfl rfl (Nat.le_of_ble_eq_true rfl) d_M_makePage_275 (fun H locs hE hS => ?_)
        have hag := hE.agw (L := mPgL) (C0 := C) ((((((((((fr_ag.wider iA (L' := mPgL) (by decide)).tr (((fr_ag.rf.up (by decide)).up (by decide)).up (by decide))).up (by decide)).up (by decide)).up (by decide)).up (by decide)).up (by decide)).up (by decide)).up (by decide)).up (by decide))
        have htm : F + m1 < mL := by rcases Nat.lt_or_ge (F + m1) mL with y | y; exact y; exact absurd (nI_le y (by omega)) c_9
        refine lv_iload hx hb d_M_makePage_278 (lv_at hl 0 rfl) ?_
        refine W.widen (k := 0) (n := 0) (Nat.le_of_ble_eq_true rfl) (Nat.le_of_ble_eq_true rfl) ?_
        have hpost := hE.say (fun X => mPage C X cI cZ b th pg gr lf an n lc ps rw tk po pl pf pr pa pt rr rd rg tp md le dy dl L F t m1 (kp (keepB ac (si L)) g F m1) (F + m1 < mL) rr1 rd1 rg1) ⟨k58, k59, (by rw [← i2, ← i3]; rfl), k61, i6, i7, i8, (by rw [← i2]; exact i9), (by rw [← i2, ← i3]; omega), hag, Or.inl ⟨htm, (by rw [← i2, ← i3, show m1 - A = B by omega]; rfl), (by rw [← upd_upd pt ps (-1) (nI tk)]; rfl), rfl, rfl, rfl⟩⟩
        exact W.iret (v := nI ps) hx hb hr (fun t9 ht9 hW9 => ⟨⟨nI ps, (_, rr1, rd1, rg1), rfl, ⟨rfl, hpost⟩, ⟨by rw [ht9]; exact hE, va_K.moved hW9.alike hK⟩⟩, hS.F ht9⟩) hS.2.2 d_M_makePage_280
    · skip
      have hm1 : m1 < mq := by rcases Nat.lt_or_ge m1 mq with y | y; exact y; exact absurd (nI_le (by omega) (by omega)) c_6
      have hgk := hgg (F + m1) (by omega)
      refine lv_aload_n hx hb d_M_makePage_75 rfl (lv_at hl 3 rfl) ?_
      refine fr_get (ci := 5) (Cn := hR_5) (T := hF_5) (N := 34) hx hb hT hi_5 hown hK hE (0, 40) rfl i5 rfl 16 (by decide) (hT _ kw_490) (fun _ h9 => h9) rfl d_M_makePage_76 ?_
      refine lv_sipush (v := 150) hx hb d_M_makePage_79 (by decide) ?_
      refine lv_iload_n hx hb d_M_makePage_82 rfl (lv_at hl 4 rfl) ?_
      refine lv_imul hx hb d_M_makePage_83 ?_
      refine lv_topi (fun y_13 ey_13 => ?_)
      obtain rfl : y_13 = nI (150 * L) := ey_13.trans (pk_mul 150 L)
      refine lv_iload hx hb d_M_makePage_84 (lv_at hl 2 rfl) ?_
      refine lv_iadd hx hb d_M_makePage_86 ?_
      refine lv_topi (fun y_14 ey_14 => ?_)
      obtain rfl : y_14 = nI (150 * L + (F + m1)) := ey_14.trans (nI_add _ _)
      refine fr_iald hx hb hK hE (0, 56) 0 rfl k56 rfl (150 * L + (F + m1)) (rfl) (by omega) (by decide) d_M_makePage_87 ?_
      refine lv_istore (lv' := [(7, .int (li (150 * L + (F + m1)))), (4, .int (nI ps)), (5, .int (nI (F + mq))), (6, .int (nI (F + m1))), (0, .ref (b 40)), (1, .int (nI L)), (2, .int (nI F)), (3, .int t)]) hx hb d_M_makePage_88 hl (by decide) rfl (fun ls hl => ?_)
      refine lv_aload_n hx hb d_M_makePage_90 rfl (lv_at hl 4 rfl) ?_
      refine fr_get (ci := 5) (Cn := hR_5) (T := hF_5) (N := 34) hx hb hT hi_5 hown hK hE (0, 40) rfl i5 rfl 9 (by decide) (hT _ kw_483) (fun _ h9 => h9) rfl d_M_makePage_91 ?_
      refine lv_iload hx hb d_M_makePage_94 (lv_at hl 0 rfl) ?_
      refine fr_iald hx hb hK hE (0, 49) 0 rfl k49 rfl (g (F + m1)) (hgk.1) (hgk.2) (by decide) d_M_makePage_96 ?_
      refine lv_aload_n hx hb d_M_makePage_97 rfl (lv_at hl 4 rfl) ?_
      refine fr_get (ci := 5) (Cn := hR_5) (T := hF_5) (N := 34) hx hb hT hi_5 hown hK hE (0, 40) rfl i5 rfl 13 (by decide) (hT _ kw_487) (fun _ h9 => h9) rfl d_M_makePage_98 ?_
      refine lv_iload_n hx hb d_M_makePage_101 rfl (lv_at hl 5 rfl) ?_
      refine fr_iald hx hb hK hE (0, 53) 0 rfl k53 rfl L (rfl) (by omega) (by decide) d_M_makePage_102 ?_
      refine lv_icmp_le (tgt := 119) hx hb d_M_makePage_103 (by decide) (fun c_15 => ?_) (fun c_15 => ?_)
      · skip
        refine lv_aload_n hx hb d_M_makePage_119 rfl (lv_at hl 4 rfl) ?_
        refine fr_get (ci := 5) (Cn := hR_5) (T := hF_5) (N := 34) hx hb hT hi_5 hown hK hE (0, 40) rfl i5 rfl 24 (by decide) (hT _ kw_498) (fun _ h9 => h9) rfl d_M_makePage_120 ?_
        refine lv_aload_n hx hb d_M_makePage_123 rfl (lv_at hl 4 rfl) ?_
        refine fr_get (ci := 5) (Cn := hR_5) (T := hF_5) (N := 34) hx hb hT hi_5 hown hK hE (0, 40) rfl i5 rfl 23 (by decide) (hT _ kw_497) (fun _ h9 => h9) rfl d_M_makePage_124 ?_
        refine lv_iload hx hb d_M_makePage_127 (lv_at hl 0 rfl) ?_
        refine fr_iast hx hb hK hE hS (0, 64) 0 rfl i6 rfl (rw + A) (rfl) (by omega) (by decide) d_M_makePage_129 (fun H locs hE hS => ?_)
        refine lv_aload_n hx hb d_M_makePage_130 rfl (lv_at hl 4 rfl) ?_
        refine fr_get (ci := 5) (Cn := hR_5) (T := hF_5) (N := 34) hx hb hT hi_5 hown hK hE (0, 40) rfl i5 rfl 25 (by decide) (hT _ kw_499) (fun _ h9 => h9) rfl d_M_makePage_131 ?_
        refine lv_aload_n hx hb d_M_makePage_134 rfl (lv_at hl 4 rfl) ?_
        refine fr_get (ci := 5) (Cn := hR_5) (T := hF_5) (N := 34) hx hb hT hi_5 hown hK hE (0, 40) rfl i5 rfl 23 (by decide) (hT _ kw_497) (fun _ h9 => h9) rfl d_M_makePage_135 ?_
        refine lv_aload_n hx hb d_M_makePage_138 rfl (lv_at hl 4 rfl) ?_
        refine fr_get (ci := 5) (Cn := hR_5) (T := hF_5) (N := 34) hx hb hT hi_5 hown hK hE (0, 40) rfl i5 rfl 7 (by decide) (hT _ kw_481) (fun _ h9 => h9) rfl d_M_makePage_139 ?_
        refine lv_iload hx hb d_M_makePage_142 (lv_at hl 0 rfl) ?_
        refine fr_iald hx hb hK hE (0, 47) 0 rfl k47 rfl (g (F + m1)) (hgk.1) (hgk.2) (by decide) d_M_makePage_144 ?_
        refine fr_iast hx hb hK hE hS (0, 65) 0 rfl i7 rfl (rw + A) (rfl) (by omega) (by decide) d_M_makePage_145 (fun H locs hE hS => ?_)
        refine lv_aload_n hx hb d_M_makePage_146 rfl (lv_at hl 4 rfl) ?_
        refine fr_get (ci := 5) (Cn := hR_5) (T := hF_5) (N := 34) hx hb hT hi_5 hown hK hE (0, 40) rfl i5 rfl 26 (by decide) (hT _ kw_500) (fun _ h9 => h9) rfl d_M_makePage_147 ?_
        refine lv_aload_n hx hb d_M_makePage_150 rfl (lv_at hl 4 rfl) ?_
        refine fr_get (ci := 5) (Cn := hR_5) (T := hF_5) (N := 34) hx hb hT hi_5 hown hK hE (0, 40) rfl i5 rfl 23 (by decide) (hT _ kw_497) (fun _ h9 => h9) rfl d_M_makePage_151 ?_
        refine lv_aload_n hx hb d_M_makePage_154 rfl (lv_at hl 4 rfl) ?_
        refine fr_get (ci := 5) (Cn := hR_5) (T := hF_5) (N := 34) hx hb hT hi_5 hown hK hE (0, 40) rfl i5 rfl 8 (by decide) (hT _ kw_482) (fun _ h9 => h9) rfl d_M_makePage_155 ?_
        refine lv_iload hx hb d_M_makePage_158 (lv_at hl 0 rfl) ?_
        refine fr_zald hx hb hK hE (0, 48) 1 rfl k48 rfl (g (F + m1)) (hgk.1) (hgk.2) (by decide) d_M_makePage_160 ?_
        refine fr_zast hx hb hK hE hS (0, 66) 1 rfl i8 rfl (rw + A) (rfl) (by omega) (by decide) (dl (g (F + m1))) (hdl _) d_M_makePage_161 (fun H locs hE hS => ?_)
        refine lv_aload_n hx hb d_M_makePage_162 rfl (lv_at hl 4 rfl) ?_
        refine lv_dup hx hb d_M_makePage_163 rfl ?_
        refine fr_get (ci := 5) (Cn := hR_5) (T := hF_5) (N := 34) hx hb hT hi_5 hown hK hE (0, 40) rfl i5 rfl 23 (by decide) (hT _ kw_497) (fun _ h9 => h9) rfl d_M_makePage_164 ?_
        refine lv_iconst (v := 1) hx hb d_M_makePage_167 (by decide) ?_
        refine lv_iadd hx hb d_M_makePage_168 ?_
        refine lv_topi (fun y_16 ey_16 => ?_)
        obtain rfl : y_16 = nI (rw + (A + 1)) := ey_16.trans ((nI_1 _).trans (congrArg nI (by omega)))
        refine fr_put (ci := 5) (v := .int (nI (rw + (A + 1)))) (ty := .int) (Cn := hR_5) (T := hF_5) (N := 34) hx hb hT hi_5 hy_5 ho_5 hn_5 hown hK hE hS (0, 40) rfl i5 rfl 23 (by decide) (hT _ kw_497) (fun _ h9 => h9) rfl (by decide +kernel) rfl rfl (Nat.le_of_ble_eq_true rfl) d_M_makePage_169 (fun H locs hE hS => ?_)
        refine lv_iinc (v := nI (F + (m1 + 1))) (lv' := [(6, .int (nI (F + (m1 + 1)))), (7, .int (li (150 * L + (F + m1)))), (4, .int (nI ps)), (5, .int (nI (F + mq))), (0, .ref (b 40)), (1, .int (nI L)), (2, .int (nI F)), (3, .int t)]) hx hb d_M_makePage_172 hl (k := 3) rfl ((nI_1 _).trans (congrArg nI (by omega))) (by decide) rfl (fun ls hl => ?_)
        refine lv_goto (tgt := 68) hx hb d_M_makePage_175 (by decide) ?_
        have ys : (keepB ac (si L)) (g (F + m1)) = true := decide_eq_true c_15
        have bi0 : n9 + (m1 + 1) = mq + 1 := by omega
        have bi1 : (m1 + 1) ≤ mq := by omega
        have bi2 : (K1 ++ [g (F + m1)]) = kp (keepB ac (si L)) g F (m1 + 1) := by rw [kp_yes ys, i2]
        have bi3 : (A + 1) = (K1 ++ [g (F + m1)]).length := by rw [List.length_append, ← i3]; rfl
        have bi4 : (A + 1) + B = (m1 + 1) := by omega
        have bi5 : (fr_up (fr_up (fr_up (fr_up C1 (0, 64) (.inl (cI, 4500, .inl (upd rr1 (rw + A) (li (150 * L + (F + m1))))))) (0, 65) (.inl (cI, 4500, .inl (upd rd1 (rw + A) (dy (g (F + m1))))))) (0, 66) (.inl (cZ, 4500, .inl (upd rg1 (rw + A) (dl (g (F + m1))))))) (0, 40) (.inr (5, fM b th pg gr lf an n lc ps (rw + (A + 1)) tk (po + B)))) (0, 40) = some (.inr (5, fM b th pg gr lf an n lc ps (rw + (A + 1)) tk (po + B))) := rfl
        have bi6 : (fr_up (fr_up (fr_up (fr_up C1 (0, 64) (.inl (cI, 4500, .inl (upd rr1 (rw + A) (li (150 * L + (F + m1))))))) (0, 65) (.inl (cI, 4500, .inl (upd rd1 (rw + A) (dy (g (F + m1))))))) (0, 66) (.inl (cZ, 4500, .inl (upd rg1 (rw + A) (dl (g (F + m1))))))) (0, 40) (.inr (5, fM b th pg gr lf an n lc ps (rw + (A + 1)) tk (po + B)))) (0, 64) = some (.inl (cI, 4500, .inl (upd rr1 (rw + A) (li (150 * L + (F + m1)))))) := rfl
        have bi7 : (fr_up (fr_up (fr_up (fr_up C1 (0, 64) (.inl (cI, 4500, .inl (upd rr1 (rw + A) (li (150 * L + (F + m1))))))) (0, 65) (.inl (cI, 4500, .inl (upd rd1 (rw + A) (dy (g (F + m1))))))) (0, 66) (.inl (cZ, 4500, .inl (upd rg1 (rw + A) (dl (g (F + m1))))))) (0, 40) (.inr (5, fM b th pg gr lf an n lc ps (rw + (A + 1)) tk (po + B)))) (0, 65) = some (.inl (cI, 4500, .inl (upd rd1 (rw + A) (dy (g (F + m1)))))) := rfl
        have bi8 : (fr_up (fr_up (fr_up (fr_up C1 (0, 64) (.inl (cI, 4500, .inl (upd rr1 (rw + A) (li (150 * L + (F + m1))))))) (0, 65) (.inl (cI, 4500, .inl (upd rd1 (rw + A) (dy (g (F + m1))))))) (0, 66) (.inl (cZ, 4500, .inl (upd rg1 (rw + A) (dl (g (F + m1))))))) (0, 40) (.inr (5, fM b th pg gr lf an n lc ps (rw + (A + 1)) tk (po + B)))) (0, 66) = some (.inl (cZ, 4500, .inl (upd rg1 (rw + A) (dl (g (F + m1)))))) := rfl
        have bi9 : rowsOf (K1 ++ [g (F + m1)]) rw dy dl rr rd rg (upd rr1 (rw + A) (li (150 * L + (F + m1)))) (upd rd1 (rw + A) (dy (g (F + m1)))) (upd rg1 (rw + A) (dl (g (F + m1)))) := rowsOf_add i3 hgk.1 i9
        have biA : fr_ag [(0, 40), (0, 64), (0, 65), (0, 66)] (fr_up (fr_up (fr_up (fr_up C1 (0, 64) (.inl (cI, 4500, .inl (upd rr1 (rw + A) (li (150 * L + (F + m1))))))) (0, 65) (.inl (cI, 4500, .inl (upd rd1 (rw + A) (dy (g (F + m1))))))) (0, 66) (.inl (cZ, 4500, .inl (upd rg1 (rw + A) (dl (g (F + m1))))))) (0, 40) (.inr (5, fM b th pg gr lf an n lc ps (rw + (A + 1)) tk (po + B)))) (fr_up (fr_up (fr_up C (0, 58) (.inl (cI, 4600, .inl (upd pl ps (nI L))))) (0, 59) (.inl (cI, 4600, .inl (upd pf ps (nI F))))) (0, 61) (.inl (cI, 4600, .inl (upd pa ps (nI rw))))) := (((iA.up (by decide)).up (by decide)).up (by decide)).up (by decide)
        exact ih (m1 + 1, A + 1, B, K1 ++ [g (F + m1)], fr_up (fr_up (fr_up (fr_up C1 (0, 64) (.inl (cI, 4500, .inl (upd rr1 (rw + A) (li (150 * L + (F + m1))))))) (0, 65) (.inl (cI, 4500, .inl (upd rd1 (rw + A) (dy (g (F + m1))))))) (0, 66) (.inl (cZ, 4500, .inl (upd rg1 (rw + A) (dl (g (F + m1))))))) (0, 40) (.inr (5, fM b th pg gr lf an n lc ps (rw + (A + 1)) tk (po + B))), upd rr1 (rw + A) (li (150 * L + (F + m1))), upd rd1 (rw + A) (dy (g (F + m1))), upd rg1 (rw + A) (dl (g (F + m1)))) _ _ _ ⟨bi0, bi1, bi2, bi3, bi4, bi5, bi6, bi7, bi8, bi9, biA, hE, hS, lv_sub hl [2, 3, 0, 4, 5, 6, 7] rfl⟩
      · skip
        refine lv_aload_n hx hb d_M_makePage_106 rfl (lv_at hl 4 rfl) ?_
        refine lv_dup hx hb d_M_makePage_107 rfl ?_
        refine fr_get (ci := 5) (Cn := hR_5) (T := hF_5) (N := 34) hx hb hT hi_5 hown hK hE (0, 40) rfl i5 rfl 33 (by decide) (hT _ kw_507) (fun _ h9 => h9) rfl d_M_makePage_108 ?_
        refine lv_iconst (v := 1) hx hb d_M_makePage_111 (by decide) ?_
        refine lv_iadd hx hb d_M_makePage_112 ?_
        refine lv_topi (fun y_17 ey_17 => ?_)
        obtain rfl : y_17 = nI (po + (B + 1)) := ey_17.trans ((nI_1 _).trans (congrArg nI (by omega)))
        refine fr_put (ci := 5) (v := .int (nI (po + (B + 1)))) (ty := .int) (Cn := hR_5) (T := hF_5) (N := 34) hx hb hT hi_5 hy_5 ho_5 hn_5 hown hK hE hS (0, 40) rfl i5 rfl 33 (by decide) (hT _ kw_507) (fun _ h9 => h9) rfl (by decide +kernel) rfl rfl (Nat.le_of_ble_eq_true rfl) d_M_makePage_113 (fun H locs hE hS => ?_)
        refine lv_goto (tgt := 172) hx hb d_M_makePage_116 (by decide) ?_
        refine lv_iinc (v := nI (F + (m1 + 1))) (lv' := [(6, .int (nI (F + (m1 + 1)))), (7, .int (li (150 * L + (F + m1)))), (4, .int (nI ps)), (5, .int (nI (F + mq))), (0, .ref (b 40)), (1, .int (nI L)), (2, .int (nI F)), (3, .int t)]) hx hb d_M_makePage_172 hl (k := 3) rfl ((nI_1 _).trans (congrArg nI (by omega))) (by decide) rfl (fun ls hl => ?_)
        refine lv_goto (tgt := 68) hx hb d_M_makePage_175 (by decide) ?_
        have ns : (keepB ac (si L)) (g (F + m1)) = false := decide_eq_false c_15
        have bi0 : n9 + (m1 + 1) = mq + 1 := by omega
        have bi1 : (m1 + 1) ≤ mq := by omega
        have bi2 : K1 = kp (keepB ac (si L)) g F (m1 + 1) := i2.trans (kp_no ns).symm
        have bi3 : A = K1.length := i3
        have bi4 : A + (B + 1) = (m1 + 1) := by omega
        have bi5 : (fr_up C1 (0, 40) (.inr (5, fM b th pg gr lf an n lc ps (rw + A) tk (po + (B + 1))))) (0, 40) = some (.inr (5, fM b th pg gr lf an n lc ps (rw + A) tk (po + (B + 1)))) := rfl
        have bi6 : (fr_up C1 (0, 40) (.inr (5, fM b th pg gr lf an n lc ps (rw + A) tk (po + (B + 1))))) (0, 64) = some (.inl (cI, 4500, .inl rr1)) := i6
        have bi7 : (fr_up C1 (0, 40) (.inr (5, fM b th pg gr lf an n lc ps (rw + A) tk (po + (B + 1))))) (0, 65) = some (.inl (cI, 4500, .inl rd1)) := i7
        have bi8 : (fr_up C1 (0, 40) (.inr (5, fM b th pg gr lf an n lc ps (rw + A) tk (po + (B + 1))))) (0, 66) = some (.inl (cZ, 4500, .inl rg1)) := i8
        have bi9 : rowsOf K1 rw dy dl rr rd rg rr1 rd1 rg1 := i9
        have biA : fr_ag [(0, 40), (0, 64), (0, 65), (0, 66)] (fr_up C1 (0, 40) (.inr (5, fM b th pg gr lf an n lc ps (rw + A) tk (po + (B + 1))))) (fr_up (fr_up (fr_up C (0, 58) (.inl (cI, 4600, .inl (upd pl ps (nI L))))) (0, 59) (.inl (cI, 4600, .inl (upd pf ps (nI F))))) (0, 61) (.inl (cI, 4600, .inl (upd pa ps (nI rw))))) := iA.up (by decide)
        exact ih (m1 + 1, A, B + 1, K1, fr_up C1 (0, 40) (.inr (5, fM b th pg gr lf an n lc ps (rw + A) tk (po + (B + 1)))), rr1, rd1, rg1) _ _ _ ⟨bi0, bi1, bi2, bi3, bi4, bi5, bi6, bi7, bi8, bi9, biA, hE, hS, lv_sub hl [2, 3, 0, 4, 5, 6, 7] rfl⟩
  · skip
    have hc : F + pg < mL := by rcases Nat.lt_or_ge (F + pg) mL with y | y; exact y; exact absurd (nI_le y (by omega)) c_3
    rw [if_pos hc] at hm
    refine lv_iload_n hx hb d_M_makePage_48 rfl (lv_at hl 3 rfl) ?_
    refine lv_aload_n hx hb d_M_makePage_49 rfl (lv_at hl 1 rfl) ?_
    refine fr_get (ci := 5) (Cn := hR_5) (T := hF_5) (N := 34) hx hb hT hi_5 hown hK hE (0, 40) rfl m0 rfl 1 (by decide) (hT _ kw_475) (fun _ h9 => h9) rfl d_M_makePage_50 ?_
    refine lv_iadd hx hb d_M_makePage_53 ?_
    refine lv_topi (fun y_18 ey_18 => ?_)
    obtain rfl : y_18 = nI (F + pg) := ey_18.trans (nI_add F pg)
    refine lv_goto (tgt := 63) hx hb d_M_makePage_54 (by decide) ?_
    refine lv_topi (fun y_19 ey_19 => ?_)
    obtain rfl : y_19 = nI (F + mq) := ey_19.trans (by rw [hm])
    refine lv_istore (lv' := [(5, .int (nI (F + mq))), (4, .int (nI ps)), (0, .ref (b 40)), (1, .int (nI L)), (2, .int (nI F)), (3, .int t)]) hx hb d_M_makePage_63 hl (by decide) rfl (fun ls hl => ?_)
    refine lv_iload_n hx hb d_M_makePage_65 rfl (lv_at hl 4 rfl) ?_
    refine lv_istore (lv' := [(6, .int (nI F)), (5, .int (nI (F + mq))), (4, .int (nI ps)), (0, .ref (b 40)), (1, .int (nI L)), (2, .int (nI F)), (3, .int t)]) hx hb d_M_makePage_66 hl (by decide) rfl (fun ls hl => ?_)
    refine W.widen (k := 0) (n := 0) (Nat.le_of_ble_eq_true rfl) (Nat.le_of_ble_eq_true rfl) ?_
    have ai0 : (mq + 1) + 0 = mq + 1 := by omega
    have ai1 : 0 ≤ mq := Nat.zero_le mq
    have ai2 : ([] : List Nat) = kp (keepB ac (si L)) g F 0 := rfl
    have ai3 : 0 = ([] : List Nat).length := rfl
    have ai4 : 0 + 0 = 0 := rfl
    have ai5 : (fr_up (fr_up (fr_up C (0, 58) (.inl (cI, 4600, .inl (upd pl ps (nI L))))) (0, 59) (.inl (cI, 4600, .inl (upd pf ps (nI F))))) (0, 61) (.inl (cI, 4600, .inl (upd pa ps (nI rw))))) (0, 40) = some (.inr (5, fM b th pg gr lf an n lc ps (rw + 0) tk (po + 0))) := m0
    have ai6 : (fr_up (fr_up (fr_up C (0, 58) (.inl (cI, 4600, .inl (upd pl ps (nI L))))) (0, 59) (.inl (cI, 4600, .inl (upd pf ps (nI F))))) (0, 61) (.inl (cI, 4600, .inl (upd pa ps (nI rw))))) (0, 64) = some (.inl (cI, 4500, .inl rr)) := m24
    have ai7 : (fr_up (fr_up (fr_up C (0, 58) (.inl (cI, 4600, .inl (upd pl ps (nI L))))) (0, 59) (.inl (cI, 4600, .inl (upd pf ps (nI F))))) (0, 61) (.inl (cI, 4600, .inl (upd pa ps (nI rw))))) (0, 65) = some (.inl (cI, 4500, .inl rd)) := m25
    have ai8 : (fr_up (fr_up (fr_up C (0, 58) (.inl (cI, 4600, .inl (upd pl ps (nI L))))) (0, 59) (.inl (cI, 4600, .inl (upd pf ps (nI F))))) (0, 61) (.inl (cI, 4600, .inl (upd pa ps (nI rw))))) (0, 66) = some (.inl (cZ, 4500, .inl rg)) := m26
    have ai9 : rowsOf ([] : List Nat) rw dy dl rr rd rg rr rd rg := rowsOf_0
    have aiA : fr_ag [(0, 40), (0, 64), (0, 65), (0, 66)] (fr_up (fr_up (fr_up C (0, 58) (.inl (cI, 4600, .inl (upd pl ps (nI L))))) (0, 59) (.inl (cI, 4600, .inl (upd pf ps (nI F))))) (0, 61) (.inl (cI, 4600, .inl (upd pa ps (nI rw))))) (fr_up (fr_up (fr_up C (0, 58) (.inl (cI, 4600, .inl (upd pl ps (nI L))))) (0, 59) (.inl (cI, 4600, .inl (upd pf ps (nI F))))) (0, 61) (.inl (cI, 4600, .inl (upd pa ps (nI rw))))) := fr_ag.rf
    refine fr_loop (σ := Nat × Nat × Nat × List Nat × fr_C × (Nat → Int32) × (Nat → Int32) × (Nat → Int32)) (fun n9 x H locs ls => (n9 + x.1 = mq + 1) ∧ (x.1 ≤ mq) ∧ (x.2.2.2.1 = kp (keepB ac (si L)) g F x.1) ∧ (x.2.1 = x.2.2.2.1.length) ∧ (x.2.1 + x.2.2.1 = x.1) ∧ (x.2.2.2.2.1 (0, 40) = some (.inr (5, fM b th pg gr lf an n lc ps (rw + x.2.1) tk (po + x.2.2.1)))) ∧ (x.2.2.2.2.1 (0, 64) = some (.inl (cI, 4500, .inl x.2.2.2.2.2.1))) ∧ (x.2.2.2.2.1 (0, 65) = some (.inl (cI, 4500, .inl x.2.2.2.2.2.2.1))) ∧ (x.2.2.2.2.1 (0, 66) = some (.inl (cZ, 4500, .inl x.2.2.2.2.2.2.2))) ∧ (rowsOf x.2.2.2.1 rw dy dl rr rd rg x.2.2.2.2.2.1 x.2.2.2.2.2.2.1 x.2.2.2.2.2.2.2) ∧ (fr_ag [(0, 40), (0, 64), (0, 65), (0, 66)] x.2.2.2.2.1 (fr_up (fr_up (fr_up C (0, 58) (.inl (cI, 4600, .inl (upd pl ps (nI L))))) (0, 59) (.inl (cI, 4600, .inl (upd pf ps (nI F))))) (0, 61) (.inl (cI, 4600, .inl (upd pa ps (nI rw)))))) ∧ fr_W D hCl z b (x.2.2.2.2.1) H ∧ va_S (fr_A z) s.heap H locs ∧ lv_has ls 8 [(4, .int (nI ps)), (5, .int (nI (F + mq))), (6, .int (nI (F + x.1))), (0, .ref (b 40)), (1, .int (nI L)), (2, .int (nI F)), (3, .int t)]) (fun x H locs ls h => by obtain ⟨h1, h2, -⟩ := h; omega) (fun n9 x H locs ls hI ih => ?_) (mq + 1) (0, 0, 0, ([] : List Nat), (fr_up (fr_up (fr_up C (0, 58) (.inl (cI, 4600, .inl (upd pl ps (nI L))))) (0, 59) (.inl (cI, 4600, .inl (upd pf ps (nI F))))) (0, 61) (.inl (cI, 4600, .inl (upd pa ps (nI rw))))), rr, rd, rg) _ _ _ ⟨ai0, ai1, ai2, ai3, ai4, ai5, ai6, ai7, ai8, ai9, aiA, hE, hS, lv_sub hl [2, 1, 0, 3, 4, 5, 6] rfl⟩
    obtain ⟨m1, A, B, K1, C1, rr1, rd1, rg1⟩ := x
    obtain ⟨i0, i1, i2, i3, i4, i5, i6, i7, i8, i9, iA, hE, hS, hl⟩ := hI
    replace i0 : (n9 + 1) + m1 = mq + 1 := i0
    replace i1 : m1 ≤ mq := i1
    replace i2 : K1 = kp (keepB ac (si L)) g F m1 := i2
    replace i3 : A = K1.length := i3
    replace i4 : A + B = m1 := i4
    replace i5 : C1 (0, 40) = some (.inr (5, fM b th pg gr lf an n lc ps (rw + A) tk (po + B))) := i5
    replace i6 : C1 (0, 64) = some (.inl (cI, 4500, .inl rr1)) := i6
    replace i7 : C1 (0, 65) = some (.inl (cI, 4500, .inl rd1)) := i7
    replace i8 : C1 (0, 66) = some (.inl (cZ, 4500, .inl rg1)) := i8
    replace i9 : rowsOf K1 rw dy dl rr rd rg rr1 rd1 rg1 := i9
    replace iA : fr_ag [(0, 40), (0, 64), (0, 65), (0, 66)] C1 (fr_up (fr_up (fr_up C (0, 58) (.inl (cI, 4600, .inl (upd pl ps (nI L))))) (0, 59) (.inl (cI, 4600, .inl (upd pf ps (nI F))))) (0, 61) (.inl (cI, 4600, .inl (upd pa ps (nI rw))))) := iA
    replace hE : fr_W D hCl z b (C1) H := hE
    replace hl : lv_has ls 8 [(4, .int (nI ps)), (5, .int (nI (F + mq))), (6, .int (nI (F + m1))), (0, .ref (b 40)), (1, .int (nI L)), (2, .int (nI F)), (3, .int t)] := hl
    have k47 : C1 (0, 47) = some (.inl (cI, 150, .inl dy)) := iA.at (by decide) m7
    have k48 : C1 (0, 48) = some (.inl (cZ, 150, .inl dl)) := iA.at (by decide) m8
    have k49 : C1 (0, 49) = some (.inl (cI, 150, .inl ac)) := iA.at (by decide) m9
    have k52 : C1 (0, 52) = some (.inl (cI, 30, .inl mn)) := iA.at (by decide) m12
    have k53 : C1 (0, 53) = some (.inl (cI, 30, .inl si)) := iA.at (by decide) m13
    have k56 : C1 (0, 56) = some (.inl (cI, 4500, .inl li)) := iA.at (by decide) m16
    have k58 : C1 (0, 58) = some (.inl (cI, 4600, .inl (upd pl ps (nI L)))) := iA.at (by decide) rfl
    have k59 : C1 (0, 59) = some (.inl (cI, 4600, .inl (upd pf ps (nI F)))) := iA.at (by decide) rfl
    have k61 : C1 (0, 61) = some (.inl (cI, 4600, .inl (upd pa ps (nI rw)))) := iA.at (by decide) rfl
    have k60 : C1 (0, 60) = some (.inl (cI, 4600, .inl pr)) := iA.at (by decide) m20
    have k62 : C1 (0, 62) = some (.inl (cI, 4600, .inl pt)) := iA.at (by decide) m22
    have k68 : C1 (0, 68) = some (.inl (cI, 4600, .inl tp)) := iA.at (by decide) m28
    have k69 : C1 (0, 69) = some (.inl (cI, 4600, .inl md)) := iA.at (by decide) m29
    have k70 : C1 (0, 70) = some (.inl (cI, 4600, .inl le)) := iA.at (by decide) m30
    refine lv_iload hx hb d_M_makePage_68 (lv_at hl 2 rfl) ?_
    refine lv_iload hx hb d_M_makePage_70 (lv_at hl 1 rfl) ?_
    refine lv_icmp_ge (tgt := 178) hx hb d_M_makePage_72 (by decide) (fun c_20 => ?_) (fun c_20 => ?_)
    · skip
      have hmm : m1 = mq := by rcases Nat.lt_or_ge m1 mq with y | y; exact absurd c_20 (nI_ge (by omega) (by omega)); omega
      subst hmm
      refine lv_aload_n hx hb d_M_makePage_178 rfl (lv_at hl 3 rfl) ?_
      refine fr_get (ci := 5) (Cn := hR_5) (T := hF_5) (N := 34) hx hb hT hi_5 hown hK hE (0, 40) rfl i5 rfl 20 (by decide) (hT _ kw_494) (fun _ h9 => h9) rfl d_M_makePage_179 ?_
      refine lv_iload hx hb d_M_makePage_182 (lv_at hl 0 rfl) ?_
      refine lv_aload_n hx hb d_M_makePage_184 rfl (lv_at hl 3 rfl) ?_
      refine fr_get (ci := 5) (Cn := hR_5) (T := hF_5) (N := 34) hx hb hT hi_5 hown hK hE (0, 40) rfl i5 rfl 23 (by decide) (hT _ kw_497) (fun _ h9 => h9) rfl d_M_makePage_185 ?_
      refine lv_aload_n hx hb d_M_makePage_188 rfl (lv_at hl 3 rfl) ?_
      refine fr_get (ci := 5) (Cn := hR_5) (T := hF_5) (N := 34) hx hb hT hi_5 hown hK hE (0, 40) rfl i5 rfl 21 (by decide) (hT _ kw_495) (fun _ h9 => h9) rfl d_M_makePage_189 ?_
      refine lv_iload hx hb d_M_makePage_192 (lv_at hl 0 rfl) ?_
      refine fr_iald hx hb hK hE (0, 61) 0 rfl k61 rfl ps (rfl) (by omega) (by decide) d_M_makePage_194 ?_
      refine lv_isub hx hb d_M_makePage_195 ?_
      refine lv_topi (fun y_21 ey_21 => ?_)
      obtain rfl : y_21 = nI A := ey_21.trans (by rw [pk_us, pk_sub (by omega)]; exact congrArg nI (by omega))
      refine fr_iast hx hb hK hE hS (0, 60) 0 rfl k60 rfl ps (rfl) (by omega) (by decide) d_M_makePage_196 (fun H locs hE hS => ?_)
      refine lv_aload_n hx hb d_M_makePage_197 rfl (lv_at hl 3 rfl) ?_
      refine fr_get (ci := 5) (Cn := hR_5) (T := hF_5) (N := 34) hx hb hT hi_5 hown hK hE (0, 40) rfl i5 rfl 22 (by decide) (hT _ kw_496) (fun _ h9 => h9) rfl d_M_makePage_198 ?_
      refine lv_iload hx hb d_M_makePage_201 (lv_at hl 0 rfl) ?_
      refine lv_iconst (v := (-1)) hx hb d_M_makePage_203 (by decide) ?_
      refine fr_iast hx hb hK hE hS (0, 62) 0 rfl k62 rfl ps (rfl) (by omega) (by decide) d_M_makePage_204 (fun H locs hE hS => ?_)
      refine lv_iload hx hb d_M_makePage_205 (lv_at hl 1 rfl) ?_
      refine lv_aload_n hx hb d_M_makePage_207 rfl (lv_at hl 3 rfl) ?_
      refine fr_get (ci := 5) (Cn := hR_5) (T := hF_5) (N := 34) hx hb hT hi_5 hown hK hE (0, 40) rfl i5 rfl 12 (by decide) (hT _ kw_486) (fun _ h9 => h9) rfl d_M_makePage_208 ?_
      refine lv_iload_n hx hb d_M_makePage_211 rfl (lv_at hl 4 rfl) ?_
      refine fr_iald hx hb hK hE (0, 52) 0 rfl k52 rfl L (rfl) (by omega) (by decide) d_M_makePage_212 ?_
      refine lv_topi (fun y_22 ey_22 => ?_)
      obtain rfl : y_22 = nI mL := ey_22.trans (hmL)
      refine lv_icmp_ge (tgt := 268) hx hb d_M_makePage_213 (by decide) (fun c_23 => ?_) (fun c_23 => ?_)
      · skip
        refine lv_aload_n hx hb d_M_makePage_268 rfl (lv_at hl 3 rfl) ?_
        refine lv_dup hx hb d_M_makePage_269 rfl ?_
        refine fr_get (ci := 5) (Cn := hR_5) (T := hF_5) (N := 34) hx hb hT hi_5 hown hK hE (0, 40) rfl i5 rfl 17 (by decide) (hT _ kw_491) (fun _ h9 => h9) rfl d_M_makePage_270 ?_
        refine lv_iconst (v := 1) hx hb d_M_makePage_273 (by decide) ?_
        refine lv_iadd hx hb d_M_makePage_274 ?_
        refine lv_topi (fun y_24 ey_24 => ?_)
        obtain rfl : y_24 = nI (ps + 1) := ey_24.trans (nI_1 ps)
        refine fr_put (ci := 5) (v := .int (nI (ps + 1))) (ty := .int) (Cn := hR_5) (T := hF_5) (N := 34) hx hb hT hi_5 hy_5 ho_5 hn_5 hown hK hE hS (0, 40) rfl i5 rfl 17 (by decide) (hT _ kw_491) (fun _ h9 => h9) rfl (by decide +kernel) rfl rfl (Nat.le_of_ble_eq_true rfl) d_M_makePage_275 (fun H locs hE hS => ?_)
        have hag := hE.agw (L := mPgL) (C0 := C) (((((fr_ag.wider iA (L' := mPgL) (by decide)).tr (((fr_ag.rf.up (by decide)).up (by decide)).up (by decide))).up (by decide)).up (by decide)).up (by decide))
        have htm : ¬ F + m1 < mL := fun y => absurd c_23 (nI_ge y (by omega))
        refine lv_iload hx hb d_M_makePage_278 (lv_at hl 0 rfl) ?_
        refine W.widen (k := 0) (n := 0) (Nat.le_of_ble_eq_true rfl) (Nat.le_of_ble_eq_true rfl) ?_
        have hpost := hE.say (fun X => mPage C X cI cZ b th pg gr lf an n lc ps rw tk po pl pf pr pa pt rr rd rg tp md le dy dl L F t m1 (kp (keepB ac (si L)) g F m1) (F + m1 < mL) rr1 rd1 rg1) ⟨k58, k59, (by rw [← i2, ← i3]; rfl), k61, i6, i7, i8, (by rw [← i2]; exact i9), (by rw [← i2, ← i3]; omega), hag, Or.inr ⟨htm, (by rw [← i2, ← i3, show m1 - A = B by omega]; rfl), rfl, k68, k69, k70⟩⟩
        exact W.iret (v := nI ps) hx hb hr (fun t9 ht9 hW9 => ⟨⟨nI ps, (_, rr1, rd1, rg1), rfl, ⟨rfl, hpost⟩, ⟨by rw [ht9]; exact hE, va_K.moved hW9.alike hK⟩⟩, hS.F ht9⟩) hS.2.2 d_M_makePage_280
      · skip
        refine lv_aload_n hx hb d_M_makePage_216 rfl (lv_at hl 3 rfl) ?_
        refine fr_get (ci := 5) (Cn := hR_5) (T := hF_5) (N := 34) hx hb hT hi_5 hown hK hE (0, 40) rfl i5 rfl 22 (by decide) (hT _ kw_496) (fun _ h9 => h9) rfl d_M_makePage_217 ?_
        refine lv_iload hx hb d_M_makePage_220 (lv_at hl 0 rfl) ?_
        refine lv_aload_n hx hb d_M_makePage_222 rfl (lv_at hl 3 rfl) ?_
        refine fr_get (ci := 5) (Cn := hR_5) (T := hF_5) (N := 34) hx hb hT hi_5 hown hK hE (0, 40) rfl i5 rfl 27 (by decide) (hT _ kw_501) (fun _ h9 => h9) rfl d_M_makePage_223 ?_
        refine fr_iast hx hb hK hE hS (0, 62) 0 rfl rfl rfl ps (rfl) (by omega) (by decide) d_M_makePage_226 (fun H locs hE hS => ?_)
        refine lv_aload_n hx hb d_M_makePage_227 rfl (lv_at hl 3 rfl) ?_
        refine fr_get (ci := 5) (Cn := hR_5) (T := hF_5) (N := 34) hx hb hT hi_5 hown hK hE (0, 40) rfl i5 rfl 28 (by decide) (hT _ kw_502) (fun _ h9 => h9) rfl d_M_makePage_228 ?_
        refine lv_aload_n hx hb d_M_makePage_231 rfl (lv_at hl 3 rfl) ?_
        refine fr_get (ci := 5) (Cn := hR_5) (T := hF_5) (N := 34) hx hb hT hi_5 hown hK hE (0, 40) rfl i5 rfl 27 (by decide) (hT _ kw_501) (fun _ h9 => h9) rfl d_M_makePage_232 ?_
        refine lv_iload hx hb d_M_makePage_235 (lv_at hl 0 rfl) ?_
        refine fr_iast hx hb hK hE hS (0, 68) 0 rfl k68 rfl tk (rfl) (by omega) (by decide) d_M_makePage_237 (fun H locs hE hS => ?_)
        refine lv_aload_n hx hb d_M_makePage_238 rfl (lv_at hl 3 rfl) ?_
        refine fr_get (ci := 5) (Cn := hR_5) (T := hF_5) (N := 34) hx hb hT hi_5 hown hK hE (0, 40) rfl i5 rfl 29 (by decide) (hT _ kw_503) (fun _ h9 => h9) rfl d_M_makePage_239 ?_
        refine lv_aload_n hx hb d_M_makePage_242 rfl (lv_at hl 3 rfl) ?_
        refine fr_get (ci := 5) (Cn := hR_5) (T := hF_5) (N := 34) hx hb hT hi_5 hown hK hE (0, 40) rfl i5 rfl 27 (by decide) (hT _ kw_501) (fun _ h9 => h9) rfl d_M_makePage_243 ?_
        refine lv_iload_n hx hb d_M_makePage_246 rfl (lv_at hl 6 rfl) ?_
        refine fr_iast hx hb hK hE hS (0, 69) 0 rfl k69 rfl tk (rfl) (by omega) (by decide) d_M_makePage_247 (fun H locs hE hS => ?_)
        refine lv_aload_n hx hb d_M_makePage_248 rfl (lv_at hl 3 rfl) ?_
        refine fr_get (ci := 5) (Cn := hR_5) (T := hF_5) (N := 34) hx hb hT hi_5 hown hK hE (0, 40) rfl i5 rfl 30 (by decide) (hT _ kw_504) (fun _ h9 => h9) rfl d_M_makePage_249 ?_
        refine lv_aload_n hx hb d_M_makePage_252 rfl (lv_at hl 3 rfl) ?_
        refine fr_get (ci := 5) (Cn := hR_5) (T := hF_5) (N := 34) hx hb hT hi_5 hown hK hE (0, 40) rfl i5 rfl 27 (by decide) (hT _ kw_501) (fun _ h9 => h9) rfl d_M_makePage_253 ?_
        refine lv_iconst (v := (-1)) hx hb d_M_makePage_256 (by decide) ?_
        refine fr_iast hx hb hK hE hS (0, 70) 0 rfl k70 rfl tk (rfl) (by omega) (by decide) d_M_makePage_257 (fun H locs hE hS => ?_)
        refine lv_aload_n hx hb d_M_makePage_258 rfl (lv_at hl 3 rfl) ?_
        refine lv_dup hx hb d_M_makePage_259 rfl ?_
        refine fr_get (ci := 5) (Cn := hR_5) (T := hF_5) (N := 34) hx hb hT hi_5 hown hK hE (0, 40) rfl i5 rfl 27 (by decide) (hT _ kw_501) (fun _ h9 => h9) rfl d_M_makePage_260 ?_
        refine lv_iconst (v := 1) hx hb d_M_makePage_263 (by decide) ?_
        refine lv_iadd hx hb d_M_makePage_264 ?_
        refine lv_topi (fun y_25 ey_25 => ?_)
        obtain rfl : y_25 = nI (tk + 1) := ey_25.trans (nI_1 tk)
        refine fr_put (ci := 5) (v := .int (nI (tk + 1))) (ty := .int) (Cn := hR_5) (T := hF_5) (N := 34) hx hb hT hi_5 hy_5 ho_5 hn_5 hown hK hE hS (0, 40) rfl i5 rfl 27 (by decide) (hT _ kw_501) (fun _ h9 => h9) rfl (by decide +kernel) rfl rfl (Nat.le_of_ble_eq_true rfl) d_M_makePage_265 (fun H locs hE hS => ?_)
        refine lv_aload_n hx hb d_M_makePage_268 rfl (lv_at hl 3 rfl) ?_
        refine lv_dup hx hb d_M_makePage_269 rfl ?_
        refine fr_get (ci := 5) (Cn := hR_5) (T := hF_5) (N := 34) hx hb hT hi_5 hown hK hE (0, 40) rfl rfl rfl 17 (by decide) (hT _ kw_491) (fun _ h9 => h9) rfl d_M_makePage_270 ?_
        refine lv_iconst (v := 1) hx hb d_M_makePage_273 (by decide) ?_
        refine lv_iadd hx hb d_M_makePage_274 ?_
        refine lv_topi (fun y_26 ey_26 => ?_)
        obtain rfl : y_26 = nI (ps + 1) := ey_26.trans (nI_1 ps)
        refine fr_put (ci := 5) (v := .int (nI (ps + 1))) (ty := .int) (Cn := hR_5) (T := hF_5) (N := 34) hx hb hT hi_5 hy_5 ho_5 hn_5 hown hK hE hS (0, 40) rfl rfl rfl 17 (by decide) (hT _ kw_491) (fun _ h9 => h9) rfl (by decide +kernel) rfl rfl (Nat.le_of_ble_eq_true rfl) d_M_makePage_275 (fun H locs hE hS => ?_)
        have hag := hE.agw (L := mPgL) (C0 := C) ((((((((((fr_ag.wider iA (L' := mPgL) (by decide)).tr (((fr_ag.rf.up (by decide)).up (by decide)).up (by decide))).up (by decide)).up (by decide)).up (by decide)).up (by decide)).up (by decide)).up (by decide)).up (by decide)).up (by decide))
        have htm : F + m1 < mL := by rcases Nat.lt_or_ge (F + m1) mL with y | y; exact y; exact absurd (nI_le y (by omega)) c_23
        refine lv_iload hx hb d_M_makePage_278 (lv_at hl 0 rfl) ?_
        refine W.widen (k := 0) (n := 0) (Nat.le_of_ble_eq_true rfl) (Nat.le_of_ble_eq_true rfl) ?_
        have hpost := hE.say (fun X => mPage C X cI cZ b th pg gr lf an n lc ps rw tk po pl pf pr pa pt rr rd rg tp md le dy dl L F t m1 (kp (keepB ac (si L)) g F m1) (F + m1 < mL) rr1 rd1 rg1) ⟨k58, k59, (by rw [← i2, ← i3]; rfl), k61, i6, i7, i8, (by rw [← i2]; exact i9), (by rw [← i2, ← i3]; omega), hag, Or.inl ⟨htm, (by rw [← i2, ← i3, show m1 - A = B by omega]; rfl), (by rw [← upd_upd pt ps (-1) (nI tk)]; rfl), rfl, rfl, rfl⟩⟩
        exact W.iret (v := nI ps) hx hb hr (fun t9 ht9 hW9 => ⟨⟨nI ps, (_, rr1, rd1, rg1), rfl, ⟨rfl, hpost⟩, ⟨by rw [ht9]; exact hE, va_K.moved hW9.alike hK⟩⟩, hS.F ht9⟩) hS.2.2 d_M_makePage_280
    · skip
      have hm1 : m1 < mq := by rcases Nat.lt_or_ge m1 mq with y | y; exact y; exact absurd (nI_le (by omega) (by omega)) c_20
      have hgk := hgg (F + m1) (by omega)
      refine lv_aload_n hx hb d_M_makePage_75 rfl (lv_at hl 3 rfl) ?_
      refine fr_get (ci := 5) (Cn := hR_5) (T := hF_5) (N := 34) hx hb hT hi_5 hown hK hE (0, 40) rfl i5 rfl 16 (by decide) (hT _ kw_490) (fun _ h9 => h9) rfl d_M_makePage_76 ?_
      refine lv_sipush (v := 150) hx hb d_M_makePage_79 (by decide) ?_
      refine lv_iload_n hx hb d_M_makePage_82 rfl (lv_at hl 4 rfl) ?_
      refine lv_imul hx hb d_M_makePage_83 ?_
      refine lv_topi (fun y_27 ey_27 => ?_)
      obtain rfl : y_27 = nI (150 * L) := ey_27.trans (pk_mul 150 L)
      refine lv_iload hx hb d_M_makePage_84 (lv_at hl 2 rfl) ?_
      refine lv_iadd hx hb d_M_makePage_86 ?_
      refine lv_topi (fun y_28 ey_28 => ?_)
      obtain rfl : y_28 = nI (150 * L + (F + m1)) := ey_28.trans (nI_add _ _)
      refine fr_iald hx hb hK hE (0, 56) 0 rfl k56 rfl (150 * L + (F + m1)) (rfl) (by omega) (by decide) d_M_makePage_87 ?_
      refine lv_istore (lv' := [(7, .int (li (150 * L + (F + m1)))), (4, .int (nI ps)), (5, .int (nI (F + mq))), (6, .int (nI (F + m1))), (0, .ref (b 40)), (1, .int (nI L)), (2, .int (nI F)), (3, .int t)]) hx hb d_M_makePage_88 hl (by decide) rfl (fun ls hl => ?_)
      refine lv_aload_n hx hb d_M_makePage_90 rfl (lv_at hl 4 rfl) ?_
      refine fr_get (ci := 5) (Cn := hR_5) (T := hF_5) (N := 34) hx hb hT hi_5 hown hK hE (0, 40) rfl i5 rfl 9 (by decide) (hT _ kw_483) (fun _ h9 => h9) rfl d_M_makePage_91 ?_
      refine lv_iload hx hb d_M_makePage_94 (lv_at hl 0 rfl) ?_
      refine fr_iald hx hb hK hE (0, 49) 0 rfl k49 rfl (g (F + m1)) (hgk.1) (hgk.2) (by decide) d_M_makePage_96 ?_
      refine lv_aload_n hx hb d_M_makePage_97 rfl (lv_at hl 4 rfl) ?_
      refine fr_get (ci := 5) (Cn := hR_5) (T := hF_5) (N := 34) hx hb hT hi_5 hown hK hE (0, 40) rfl i5 rfl 13 (by decide) (hT _ kw_487) (fun _ h9 => h9) rfl d_M_makePage_98 ?_
      refine lv_iload_n hx hb d_M_makePage_101 rfl (lv_at hl 5 rfl) ?_
      refine fr_iald hx hb hK hE (0, 53) 0 rfl k53 rfl L (rfl) (by omega) (by decide) d_M_makePage_102 ?_
      refine lv_icmp_le (tgt := 119) hx hb d_M_makePage_103 (by decide) (fun c_29 => ?_) (fun c_29 => ?_)
      · skip
        refine lv_aload_n hx hb d_M_makePage_119 rfl (lv_at hl 4 rfl) ?_
        refine fr_get (ci := 5) (Cn := hR_5) (T := hF_5) (N := 34) hx hb hT hi_5 hown hK hE (0, 40) rfl i5 rfl 24 (by decide) (hT _ kw_498) (fun _ h9 => h9) rfl d_M_makePage_120 ?_
        refine lv_aload_n hx hb d_M_makePage_123 rfl (lv_at hl 4 rfl) ?_
        refine fr_get (ci := 5) (Cn := hR_5) (T := hF_5) (N := 34) hx hb hT hi_5 hown hK hE (0, 40) rfl i5 rfl 23 (by decide) (hT _ kw_497) (fun _ h9 => h9) rfl d_M_makePage_124 ?_
        refine lv_iload hx hb d_M_makePage_127 (lv_at hl 0 rfl) ?_
        refine fr_iast hx hb hK hE hS (0, 64) 0 rfl i6 rfl (rw + A) (rfl) (by omega) (by decide) d_M_makePage_129 (fun H locs hE hS => ?_)
        refine lv_aload_n hx hb d_M_makePage_130 rfl (lv_at hl 4 rfl) ?_
        refine fr_get (ci := 5) (Cn := hR_5) (T := hF_5) (N := 34) hx hb hT hi_5 hown hK hE (0, 40) rfl i5 rfl 25 (by decide) (hT _ kw_499) (fun _ h9 => h9) rfl d_M_makePage_131 ?_
        refine lv_aload_n hx hb d_M_makePage_134 rfl (lv_at hl 4 rfl) ?_
        refine fr_get (ci := 5) (Cn := hR_5) (T := hF_5) (N := 34) hx hb hT hi_5 hown hK hE (0, 40) rfl i5 rfl 23 (by decide) (hT _ kw_497) (fun _ h9 => h9) rfl d_M_makePage_135 ?_
        refine lv_aload_n hx hb d_M_makePage_138 rfl (lv_at hl 4 rfl) ?_
        refine fr_get (ci := 5) (Cn := hR_5) (T := hF_5) (N := 34) hx hb hT hi_5 hown hK hE (0, 40) rfl i5 rfl 7 (by decide) (hT _ kw_481) (fun _ h9 => h9) rfl d_M_makePage_139 ?_
        refine lv_iload hx hb d_M_makePage_142 (lv_at hl 0 rfl) ?_
        refine fr_iald hx hb hK hE (0, 47) 0 rfl k47 rfl (g (F + m1)) (hgk.1) (hgk.2) (by decide) d_M_makePage_144 ?_
        refine fr_iast hx hb hK hE hS (0, 65) 0 rfl i7 rfl (rw + A) (rfl) (by omega) (by decide) d_M_makePage_145 (fun H locs hE hS => ?_)
        refine lv_aload_n hx hb d_M_makePage_146 rfl (lv_at hl 4 rfl) ?_
        refine fr_get (ci := 5) (Cn := hR_5) (T := hF_5) (N := 34) hx hb hT hi_5 hown hK hE (0, 40) rfl i5 rfl 26 (by decide) (hT _ kw_500) (fun _ h9 => h9) rfl d_M_makePage_147 ?_
        refine lv_aload_n hx hb d_M_makePage_150 rfl (lv_at hl 4 rfl) ?_
        refine fr_get (ci := 5) (Cn := hR_5) (T := hF_5) (N := 34) hx hb hT hi_5 hown hK hE (0, 40) rfl i5 rfl 23 (by decide) (hT _ kw_497) (fun _ h9 => h9) rfl d_M_makePage_151 ?_
        refine lv_aload_n hx hb d_M_makePage_154 rfl (lv_at hl 4 rfl) ?_
        refine fr_get (ci := 5) (Cn := hR_5) (T := hF_5) (N := 34) hx hb hT hi_5 hown hK hE (0, 40) rfl i5 rfl 8 (by decide) (hT _ kw_482) (fun _ h9 => h9) rfl d_M_makePage_155 ?_
        refine lv_iload hx hb d_M_makePage_158 (lv_at hl 0 rfl) ?_
        refine fr_zald hx hb hK hE (0, 48) 1 rfl k48 rfl (g (F + m1)) (hgk.1) (hgk.2) (by decide) d_M_makePage_160 ?_
        refine fr_zast hx hb hK hE hS (0, 66) 1 rfl i8 rfl (rw + A) (rfl) (by omega) (by decide) (dl (g (F + m1))) (hdl _) d_M_makePage_161 (fun H locs hE hS => ?_)
        refine lv_aload_n hx hb d_M_makePage_162 rfl (lv_at hl 4 rfl) ?_
        refine lv_dup hx hb d_M_makePage_163 rfl ?_
        refine fr_get (ci := 5) (Cn := hR_5) (T := hF_5) (N := 34) hx hb hT hi_5 hown hK hE (0, 40) rfl i5 rfl 23 (by decide) (hT _ kw_497) (fun _ h9 => h9) rfl d_M_makePage_164 ?_
        refine lv_iconst (v := 1) hx hb d_M_makePage_167 (by decide) ?_
        refine lv_iadd hx hb d_M_makePage_168 ?_
        refine lv_topi (fun y_30 ey_30 => ?_)
        obtain rfl : y_30 = nI (rw + (A + 1)) := ey_30.trans ((nI_1 _).trans (congrArg nI (by omega)))
        refine fr_put (ci := 5) (v := .int (nI (rw + (A + 1)))) (ty := .int) (Cn := hR_5) (T := hF_5) (N := 34) hx hb hT hi_5 hy_5 ho_5 hn_5 hown hK hE hS (0, 40) rfl i5 rfl 23 (by decide) (hT _ kw_497) (fun _ h9 => h9) rfl (by decide +kernel) rfl rfl (Nat.le_of_ble_eq_true rfl) d_M_makePage_169 (fun H locs hE hS => ?_)
        refine lv_iinc (v := nI (F + (m1 + 1))) (lv' := [(6, .int (nI (F + (m1 + 1)))), (7, .int (li (150 * L + (F + m1)))), (4, .int (nI ps)), (5, .int (nI (F + mq))), (0, .ref (b 40)), (1, .int (nI L)), (2, .int (nI F)), (3, .int t)]) hx hb d_M_makePage_172 hl (k := 3) rfl ((nI_1 _).trans (congrArg nI (by omega))) (by decide) rfl (fun ls hl => ?_)
        refine lv_goto (tgt := 68) hx hb d_M_makePage_175 (by decide) ?_
        have ys : (keepB ac (si L)) (g (F + m1)) = true := decide_eq_true c_29
        have bi0 : n9 + (m1 + 1) = mq + 1 := by omega
        have bi1 : (m1 + 1) ≤ mq := by omega
        have bi2 : (K1 ++ [g (F + m1)]) = kp (keepB ac (si L)) g F (m1 + 1) := by rw [kp_yes ys, i2]
        have bi3 : (A + 1) = (K1 ++ [g (F + m1)]).length := by rw [List.length_append, ← i3]; rfl
        have bi4 : (A + 1) + B = (m1 + 1) := by omega
        have bi5 : (fr_up (fr_up (fr_up (fr_up C1 (0, 64) (.inl (cI, 4500, .inl (upd rr1 (rw + A) (li (150 * L + (F + m1))))))) (0, 65) (.inl (cI, 4500, .inl (upd rd1 (rw + A) (dy (g (F + m1))))))) (0, 66) (.inl (cZ, 4500, .inl (upd rg1 (rw + A) (dl (g (F + m1))))))) (0, 40) (.inr (5, fM b th pg gr lf an n lc ps (rw + (A + 1)) tk (po + B)))) (0, 40) = some (.inr (5, fM b th pg gr lf an n lc ps (rw + (A + 1)) tk (po + B))) := rfl
        have bi6 : (fr_up (fr_up (fr_up (fr_up C1 (0, 64) (.inl (cI, 4500, .inl (upd rr1 (rw + A) (li (150 * L + (F + m1))))))) (0, 65) (.inl (cI, 4500, .inl (upd rd1 (rw + A) (dy (g (F + m1))))))) (0, 66) (.inl (cZ, 4500, .inl (upd rg1 (rw + A) (dl (g (F + m1))))))) (0, 40) (.inr (5, fM b th pg gr lf an n lc ps (rw + (A + 1)) tk (po + B)))) (0, 64) = some (.inl (cI, 4500, .inl (upd rr1 (rw + A) (li (150 * L + (F + m1)))))) := rfl
        have bi7 : (fr_up (fr_up (fr_up (fr_up C1 (0, 64) (.inl (cI, 4500, .inl (upd rr1 (rw + A) (li (150 * L + (F + m1))))))) (0, 65) (.inl (cI, 4500, .inl (upd rd1 (rw + A) (dy (g (F + m1))))))) (0, 66) (.inl (cZ, 4500, .inl (upd rg1 (rw + A) (dl (g (F + m1))))))) (0, 40) (.inr (5, fM b th pg gr lf an n lc ps (rw + (A + 1)) tk (po + B)))) (0, 65) = some (.inl (cI, 4500, .inl (upd rd1 (rw + A) (dy (g (F + m1)))))) := rfl
        have bi8 : (fr_up (fr_up (fr_up (fr_up C1 (0, 64) (.inl (cI, 4500, .inl (upd rr1 (rw + A) (li (150 * L + (F + m1))))))) (0, 65) (.inl (cI, 4500, .inl (upd rd1 (rw + A) (dy (g (F + m1))))))) (0, 66) (.inl (cZ, 4500, .inl (upd rg1 (rw + A) (dl (g (F + m1))))))) (0, 40) (.inr (5, fM b th pg gr lf an n lc ps (rw + (A + 1)) tk (po + B)))) (0, 66) = some (.inl (cZ, 4500, .inl (upd rg1 (rw + A) (dl (g (F + m1)))))) := rfl
        have bi9 : rowsOf (K1 ++ [g (F + m1)]) rw dy dl rr rd rg (upd rr1 (rw + A) (li (150 * L + (F + m1)))) (upd rd1 (rw + A) (dy (g (F + m1)))) (upd rg1 (rw + A) (dl (g (F + m1)))) := rowsOf_add i3 hgk.1 i9
        have biA : fr_ag [(0, 40), (0, 64), (0, 65), (0, 66)] (fr_up (fr_up (fr_up (fr_up C1 (0, 64) (.inl (cI, 4500, .inl (upd rr1 (rw + A) (li (150 * L + (F + m1))))))) (0, 65) (.inl (cI, 4500, .inl (upd rd1 (rw + A) (dy (g (F + m1))))))) (0, 66) (.inl (cZ, 4500, .inl (upd rg1 (rw + A) (dl (g (F + m1))))))) (0, 40) (.inr (5, fM b th pg gr lf an n lc ps (rw + (A + 1)) tk (po + B)))) (fr_up (fr_up (fr_up C (0, 58) (.inl (cI, 4600, .inl (upd pl ps (nI L))))) (0, 59) (.inl (cI, 4600, .inl (upd pf ps (nI F))))) (0, 61) (.inl (cI, 4600, .inl (upd pa ps (nI rw))))) := (((iA.up (by decide)).up (by decide)).up (by decide)).up (by decide)
        exact ih (m1 + 1, A + 1, B, K1 ++ [g (F + m1)], fr_up (fr_up (fr_up (fr_up C1 (0, 64) (.inl (cI, 4500, .inl (upd rr1 (rw + A) (li (150 * L + (F + m1))))))) (0, 65) (.inl (cI, 4500, .inl (upd rd1 (rw + A) (dy (g (F + m1))))))) (0, 66) (.inl (cZ, 4500, .inl (upd rg1 (rw + A) (dl (g (F + m1))))))) (0, 40) (.inr (5, fM b th pg gr lf an n lc ps (rw + (A + 1)) tk (po + B))), upd rr1 (rw + A) (li (150 * L + (F + m1))), upd rd1 (rw + A) (dy (g (F + m1))), upd rg1 (rw + A) (dl (g (F + m1)))) _ _ _ ⟨bi0, bi1, bi2, bi3, bi4, bi5, bi6, bi7, bi8, bi9, biA, hE, hS, lv_sub hl [2, 3, 0, 4, 5, 6, 7] rfl⟩
      · skip
        refine lv_aload_n hx hb d_M_makePage_106 rfl (lv_at hl 4 rfl) ?_
        refine lv_dup hx hb d_M_makePage_107 rfl ?_
        refine fr_get (ci := 5) (Cn := hR_5) (T := hF_5) (N := 34) hx hb hT hi_5 hown hK hE (0, 40) rfl i5 rfl 33 (by decide) (hT _ kw_507) (fun _ h9 => h9) rfl d_M_makePage_108 ?_
        refine lv_iconst (v := 1) hx hb d_M_makePage_111 (by decide) ?_
        refine lv_iadd hx hb d_M_makePage_112 ?_
        refine lv_topi (fun y_31 ey_31 => ?_)
        obtain rfl : y_31 = nI (po + (B + 1)) := ey_31.trans ((nI_1 _).trans (congrArg nI (by omega)))
        refine fr_put (ci := 5) (v := .int (nI (po + (B + 1)))) (ty := .int) (Cn := hR_5) (T := hF_5) (N := 34) hx hb hT hi_5 hy_5 ho_5 hn_5 hown hK hE hS (0, 40) rfl i5 rfl 33 (by decide) (hT _ kw_507) (fun _ h9 => h9) rfl (by decide +kernel) rfl rfl (Nat.le_of_ble_eq_true rfl) d_M_makePage_113 (fun H locs hE hS => ?_)
        refine lv_goto (tgt := 172) hx hb d_M_makePage_116 (by decide) ?_
        refine lv_iinc (v := nI (F + (m1 + 1))) (lv' := [(6, .int (nI (F + (m1 + 1)))), (7, .int (li (150 * L + (F + m1)))), (4, .int (nI ps)), (5, .int (nI (F + mq))), (0, .ref (b 40)), (1, .int (nI L)), (2, .int (nI F)), (3, .int t)]) hx hb d_M_makePage_172 hl (k := 3) rfl ((nI_1 _).trans (congrArg nI (by omega))) (by decide) rfl (fun ls hl => ?_)
        refine lv_goto (tgt := 68) hx hb d_M_makePage_175 (by decide) ?_
        have ns : (keepB ac (si L)) (g (F + m1)) = false := decide_eq_false c_29
        have bi0 : n9 + (m1 + 1) = mq + 1 := by omega
        have bi1 : (m1 + 1) ≤ mq := by omega
        have bi2 : K1 = kp (keepB ac (si L)) g F (m1 + 1) := i2.trans (kp_no ns).symm
        have bi3 : A = K1.length := i3
        have bi4 : A + (B + 1) = (m1 + 1) := by omega
        have bi5 : (fr_up C1 (0, 40) (.inr (5, fM b th pg gr lf an n lc ps (rw + A) tk (po + (B + 1))))) (0, 40) = some (.inr (5, fM b th pg gr lf an n lc ps (rw + A) tk (po + (B + 1)))) := rfl
        have bi6 : (fr_up C1 (0, 40) (.inr (5, fM b th pg gr lf an n lc ps (rw + A) tk (po + (B + 1))))) (0, 64) = some (.inl (cI, 4500, .inl rr1)) := i6
        have bi7 : (fr_up C1 (0, 40) (.inr (5, fM b th pg gr lf an n lc ps (rw + A) tk (po + (B + 1))))) (0, 65) = some (.inl (cI, 4500, .inl rd1)) := i7
        have bi8 : (fr_up C1 (0, 40) (.inr (5, fM b th pg gr lf an n lc ps (rw + A) tk (po + (B + 1))))) (0, 66) = some (.inl (cZ, 4500, .inl rg1)) := i8
        have bi9 : rowsOf K1 rw dy dl rr rd rg rr1 rd1 rg1 := i9
        have biA : fr_ag [(0, 40), (0, 64), (0, 65), (0, 66)] (fr_up C1 (0, 40) (.inr (5, fM b th pg gr lf an n lc ps (rw + A) tk (po + (B + 1))))) (fr_up (fr_up (fr_up C (0, 58) (.inl (cI, 4600, .inl (upd pl ps (nI L))))) (0, 59) (.inl (cI, 4600, .inl (upd pf ps (nI F))))) (0, 61) (.inl (cI, 4600, .inl (upd pa ps (nI rw))))) := iA.up (by decide)
        exact ih (m1 + 1, A, B + 1, K1, fr_up C1 (0, 40) (.inr (5, fM b th pg gr lf an n lc ps (rw + A) tk (po + (B + 1)))), rr1, rd1, rg1) _ _ _ ⟨bi0, bi1, bi2, bi3, bi4, bi5, bi6, bi7, bi8, bi9, biA, hE, hS, lv_sub hl [2, 3, 0, 4, 5, 6, 7] rfl⟩
